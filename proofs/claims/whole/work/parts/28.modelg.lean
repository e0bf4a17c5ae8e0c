/-! ===== the reference: reversing, closing, splitting, order ===== -/
/-! blocks of Model_reverse -/
theorem ml_Model_reverse : (g_m Model_reverse).2.2.1 = 2 := rfl
theorem rt_Model_reverse : (g_m Model_reverse).2.2.2.1 = (some .int) := rfl
theorem B_Model_reverse_0 {d mc ms cs ss : Nat} {L : List (Option Value)} {st : List Value} {h : g_H} {Q : g_Po} (hw : g_wp Model_reverse d mc ms Q 5 [(0, 1, 0, 0, 0, 0, .aload_n 0), (1, 1, 0, 0, 0, 0, .iload_n 1), (2, 3, 116, 7, 4020, 1, .invokevirtual 129)] cs ss L st h) : G Model_reverse d mc ms cs ss 0 L st h Q := G.run (by decide +kernel) hw
theorem B_Model_reverse_5 {d mc ms cs ss : Nat} {L : List (Option Value)} {st : List Value} {h : g_H} {Q : g_Po} (hw : g_wp Model_reverse d mc ms Q 8 [(5, 3, 10, 0, 0, 0, .ifCond .ne 5)] cs ss L st h) : G Model_reverse d mc ms cs ss 5 L st h Q := G.run (by decide +kernel) hw
theorem B_Model_reverse_8 {d mc ms cs ss : Nat} {L : List (Option Value)} {st : List Value} {h : g_H} {Q : g_Po} (hw : g_wp Model_reverse d mc ms Q 10 [(8, 1, 0, 0, 0, (-1), .iconst (-1)), (9, 1, 0, 0, 0, 0, .ireturn)] cs ss L st h) : G Model_reverse d mc ms cs ss 8 L st h Q := G.run (by decide +kernel) hw
theorem B_Model_reverse_10 {d mc ms cs ss : Nat} {L : List (Option Value)} {st : List Value} {h : g_H} {Q : g_Po} (hw : g_wp Model_reverse d mc ms Q 14 [(10, 1, 0, 0, 0, 0, .aload_n 0), (11, 3, 110, 7, 3222, 0, .invokevirtual 81)] cs ss L st h) : G Model_reverse d mc ms cs ss 10 L st h Q := G.run (by decide +kernel) hw
theorem B_Model_reverse_14 {d mc ms cs ss : Nat} {L : List (Option Value)} {st : List Value} {h : g_H} {Q : g_Po} (hw : g_wp Model_reverse d mc ms Q 26 [(14, 1, 0, 0, 0, 0, .aload_n 0), (15, 1, 0, 0, 0, 0, .iconst 0), (16, 3, 7, 12, 3157, 0, .putfield 70), (19, 1, 0, 0, 0, 0, .aload_n 0), (20, 1, 0, 0, 0, 0, .iload_n 1), (21, 1, 0, 0, 0, 0, .aload_n 0), (22, 1, 0, 0, 0, 0, .iload_n 1), (23, 3, 119, 7, 4047, 1, .invokevirtual 57)] cs ss L st h) : G Model_reverse d mc ms cs ss 14 L st h Q := G.run (by decide +kernel) hw
theorem B_Model_reverse_26 {d mc ms cs ss : Nat} {L : List (Option Value)} {st : List Value} {h : g_H} {Q : g_Po} (hw : g_wp Model_reverse d mc ms Q 34 [(26, 1, 0, 0, 0, 1, .iconst 1), (27, 1, 0, 0, 0, 0, .isub), (28, 1, 0, 0, 0, (-1), .iconst (-1)), (29, 1, 0, 0, 0, 0, .aload_n 0), (30, 1, 0, 0, 0, 0, .iload_n 1), (31, 3, 119, 7, 4047, 1, .invokevirtual 57)] cs ss L st h) : G Model_reverse d mc ms cs ss 26 L st h Q := G.run (by decide +kernel) hw
theorem B_Model_reverse_34 {d mc ms cs ss : Nat} {L : List (Option Value)} {st : List Value} {h : g_H} {Q : g_Po} (hw : g_wp Model_reverse d mc ms Q 37 [(34, 3, 128, 7, 4078, 4, .invokevirtual 125)] cs ss L st h) : G Model_reverse d mc ms cs ss 34 L st h Q := G.run (by decide +kernel) hw
theorem B_Model_reverse_37 {d mc ms cs ss : Nat} {L : List (Option Value)} {st : List Value} {h : g_H} {Q : g_Po} (hw : g_wp Model_reverse d mc ms Q 44 [(37, 1, 0, 0, 0, 0, .aload_n 0), (38, 1, 0, 0, 0, 0, .iload_n 1), (39, 1, 0, 0, 0, 0, .aload_n 0), (40, 1, 0, 0, 0, 0, .iload_n 1), (41, 3, 120, 7, 4035, 1, .invokevirtual 61)] cs ss L st h) : G Model_reverse d mc ms cs ss 37 L st h Q := G.run (by decide +kernel) hw
theorem B_Model_reverse_44 {d mc ms cs ss : Nat} {L : List (Option Value)} {st : List Value} {h : g_H} {Q : g_Po} (hw : g_wp Model_reverse d mc ms Q 47 [(44, 3, 127, 7, 4004, 2, .invokevirtual 87)] cs ss L st h) : G Model_reverse d mc ms cs ss 44 L st h Q := G.run (by decide +kernel) hw
theorem B_Model_reverse_47 {d mc ms cs ss : Nat} {L : List (Option Value)} {st : List Value} {h : g_H} {Q : g_Po} (hw : g_wp Model_reverse d mc ms Q 53 [(47, 1, 0, 0, 0, 0, .aload_n 0), (48, 1, 0, 0, 0, 0, .iload_n 1), (49, 1, 0, 0, 0, 0, .iconst 0), (50, 3, 121, 7, 4051, 2, .invokevirtual 95)] cs ss L st h) : G Model_reverse d mc ms cs ss 47 L st h Q := G.run (by decide +kernel) hw
theorem B_Model_reverse_53 {d mc ms cs ss : Nat} {L : List (Option Value)} {st : List Value} {h : g_H} {Q : g_Po} (hw : g_wp Model_reverse d mc ms Q 54 [(53, 1, 0, 0, 0, 0, .ireturn)] cs ss L st h) : G Model_reverse d mc ms cs ss 53 L st h Q := G.run (by decide +kernel) hw
/-! blocks of Model_close -/
theorem ml_Model_close : (g_m Model_close).2.2.1 = 2 := rfl
theorem rt_Model_close : (g_m Model_close).2.2.2.1 = (some .int) := rfl
theorem B_Model_close_0 {d mc ms cs ss : Nat} {L : List (Option Value)} {st : List Value} {h : g_H} {Q : g_Po} (hw : g_wp Model_close d mc ms Q 5 [(0, 1, 0, 0, 0, 0, .aload_n 0), (1, 1, 0, 0, 0, 0, .iload_n 1), (2, 3, 116, 7, 4020, 1, .invokevirtual 129)] cs ss L st h) : G Model_close d mc ms cs ss 0 L st h Q := G.run (by decide +kernel) hw
theorem B_Model_close_5 {d mc ms cs ss : Nat} {L : List (Option Value)} {st : List Value} {h : g_H} {Q : g_Po} (hw : g_wp Model_close d mc ms Q 8 [(5, 3, 10, 0, 0, 0, .ifCond .ne 5)] cs ss L st h) : G Model_close d mc ms cs ss 5 L st h Q := G.run (by decide +kernel) hw
theorem B_Model_close_8 {d mc ms cs ss : Nat} {L : List (Option Value)} {st : List Value} {h : g_H} {Q : g_Po} (hw : g_wp Model_close d mc ms Q 10 [(8, 1, 0, 0, 0, (-1), .iconst (-1)), (9, 1, 0, 0, 0, 0, .ireturn)] cs ss L st h) : G Model_close d mc ms cs ss 8 L st h Q := G.run (by decide +kernel) hw
theorem B_Model_close_10 {d mc ms cs ss : Nat} {L : List (Option Value)} {st : List Value} {h : g_H} {Q : g_Po} (hw : g_wp Model_close d mc ms Q 15 [(10, 1, 0, 0, 0, 0, .aload_n 0), (11, 1, 0, 0, 0, 0, .iload_n 1), (12, 3, 120, 7, 4035, 1, .invokevirtual 61)] cs ss L st h) : G Model_close d mc ms cs ss 10 L st h Q := G.run (by decide +kernel) hw
theorem B_Model_close_15 {d mc ms cs ss : Nat} {L : List (Option Value)} {st : List Value} {h : g_H} {Q : g_Po} (hw : g_wp Model_close d mc ms Q 18 [(15, 3, 48, 0, 0, 0, .ifCond .ne 33)] cs ss L st h) : G Model_close d mc ms cs ss 15 L st h Q := G.run (by decide +kernel) hw
theorem B_Model_close_18 {d mc ms cs ss : Nat} {L : List (Option Value)} {st : List Value} {h : g_H} {Q : g_Po} (hw : g_wp Model_close d mc ms Q 23 [(18, 1, 0, 0, 0, 0, .aload_n 0), (19, 1, 0, 0, 0, 0, .iload_n 1), (20, 3, 119, 7, 4047, 1, .invokevirtual 57)] cs ss L st h) : G Model_close d mc ms cs ss 18 L st h Q := G.run (by decide +kernel) hw
theorem B_Model_close_23 {d mc ms cs ss : Nat} {L : List (Option Value)} {st : List Value} {h : g_H} {Q : g_Po} (hw : g_wp Model_close d mc ms Q 27 [(23, 1, 0, 0, 0, 3, .iconst 3), (24, 3, 48, 0, 0, 0, .if_icmp .lt 24)] cs ss L st h) : G Model_close d mc ms cs ss 23 L st h Q := G.run (by decide +kernel) hw
theorem B_Model_close_27 {d mc ms cs ss : Nat} {L : List (Option Value)} {st : List Value} {h : g_H} {Q : g_Po} (hw : g_wp Model_close d mc ms Q 33 [(27, 1, 0, 0, 0, 0, .aload_n 0), (28, 1, 0, 0, 0, 0, .iload_n 1), (29, 1, 0, 0, 0, 0, .iconst 0), (30, 3, 121, 7, 4051, 2, .invokevirtual 95)] cs ss L st h) : G Model_close d mc ms cs ss 27 L st h Q := G.run (by decide +kernel) hw
theorem B_Model_close_33 {d mc ms cs ss : Nat} {L : List (Option Value)} {st : List Value} {h : g_H} {Q : g_Po} (hw : g_wp Model_close d mc ms Q 40 [(33, 1, 0, 0, 0, 0, .aload_n 0), (34, 1, 0, 0, 0, 0, .iload_n 1), (35, 1, 0, 0, 0, 0, .aload_n 0), (36, 1, 0, 0, 0, 0, .iload_n 1), (37, 3, 119, 7, 4047, 1, .invokevirtual 57)] cs ss L st h) : G Model_close d mc ms cs ss 33 L st h Q := G.run (by decide +kernel) hw
theorem B_Model_close_40 {d mc ms cs ss : Nat} {L : List (Option Value)} {st : List Value} {h : g_H} {Q : g_Po} (hw : g_wp Model_close d mc ms Q 45 [(40, 1, 0, 0, 0, 1, .iconst 1), (41, 1, 0, 0, 0, 0, .isub), (42, 3, 121, 7, 4051, 2, .invokevirtual 95)] cs ss L st h) : G Model_close d mc ms cs ss 40 L st h Q := G.run (by decide +kernel) hw
theorem B_Model_close_45 {d mc ms cs ss : Nat} {L : List (Option Value)} {st : List Value} {h : g_H} {Q : g_Po} (hw : g_wp Model_close d mc ms Q 48 [(45, 3, 51, 0, 0, 0, .if_icmp .ne 6)] cs ss L st h) : G Model_close d mc ms cs ss 45 L st h Q := G.run (by decide +kernel) hw
theorem B_Model_close_48 {d mc ms cs ss : Nat} {L : List (Option Value)} {st : List Value} {h : g_H} {Q : g_Po} (hw : g_wp Model_close d mc ms Q 51 [(48, 2, 0, 0, 0, (-3), .bipush (-3)), (50, 1, 0, 0, 0, 0, .ireturn)] cs ss L st h) : G Model_close d mc ms cs ss 48 L st h Q := G.run (by decide +kernel) hw
theorem B_Model_close_51 {d mc ms cs ss : Nat} {L : List (Option Value)} {st : List Value} {h : g_H} {Q : g_Po} (hw : g_wp Model_close d mc ms Q 55 [(51, 1, 0, 0, 0, 0, .aload_n 0), (52, 3, 110, 7, 3222, 0, .invokevirtual 81)] cs ss L st h) : G Model_close d mc ms cs ss 51 L st h Q := G.run (by decide +kernel) hw
theorem B_Model_close_55 {d mc ms cs ss : Nat} {L : List (Option Value)} {st : List Value} {h : g_H} {Q : g_Po} (hw : g_wp Model_close d mc ms Q 62 [(55, 1, 0, 0, 0, 0, .aload_n 0), (56, 1, 0, 0, 0, 0, .iload_n 1), (57, 1, 0, 0, 0, 1, .iconst 1), (58, 1, 0, 0, 0, 1, .iconst 1), (59, 3, 118, 7, 4008, 3, .invokevirtual 73)] cs ss L st h) : G Model_close d mc ms cs ss 55 L st h Q := G.run (by decide +kernel) hw
theorem B_Model_close_62 {d mc ms cs ss : Nat} {L : List (Option Value)} {st : List Value} {h : g_H} {Q : g_Po} (hw : g_wp Model_close d mc ms Q 67 [(62, 1, 0, 0, 0, 0, .aload_n 0), (63, 1, 0, 0, 0, 0, .iload_n 1), (64, 3, 119, 7, 4047, 1, .invokevirtual 57)] cs ss L st h) : G Model_close d mc ms cs ss 62 L st h Q := G.run (by decide +kernel) hw
theorem B_Model_close_67 {d mc ms cs ss : Nat} {L : List (Option Value)} {st : List Value} {h : g_H} {Q : g_Po} (hw : g_wp Model_close d mc ms Q 68 [(67, 1, 0, 0, 0, 0, .ireturn)] cs ss L st h) : G Model_close d mc ms cs ss 67 L st h Q := G.run (by decide +kernel) hw
/-! blocks of Model_splitsOpen -/
theorem ml_Model_splitsOpen : (g_m Model_splitsOpen).2.2.1 = 3 := rfl
theorem rt_Model_splitsOpen : (g_m Model_splitsOpen).2.2.2.1 = (some .int) := rfl
theorem B_Model_splitsOpen_0 {d mc ms cs ss : Nat} {L : List (Option Value)} {st : List Value} {h : g_H} {Q : g_Po} (hw : g_wp Model_splitsOpen d mc ms Q 4 [(0, 1, 0, 0, 0, 0, .iload_n 2), (1, 3, 15, 0, 0, 0, .ifCond .eq 14)] cs ss L st h) : G Model_splitsOpen d mc ms cs ss 0 L st h Q := G.run (by decide +kernel) hw
theorem B_Model_splitsOpen_4 {d mc ms cs ss : Nat} {L : List (Option Value)} {st : List Value} {h : g_H} {Q : g_Po} (hw : g_wp Model_splitsOpen d mc ms Q 10 [(4, 1, 0, 0, 0, 0, .iload_n 2), (5, 1, 0, 0, 0, 0, .aload_n 0), (6, 1, 0, 0, 0, 0, .iload_n 1), (7, 3, 119, 7, 4047, 1, .invokevirtual 57)] cs ss L st h) : G Model_splitsOpen d mc ms cs ss 4 L st h Q := G.run (by decide +kernel) hw
theorem B_Model_splitsOpen_10 {d mc ms cs ss : Nat} {L : List (Option Value)} {st : List Value} {h : g_H} {Q : g_Po} (hw : g_wp Model_splitsOpen d mc ms Q 15 [(10, 1, 0, 0, 0, 1, .iconst 1), (11, 1, 0, 0, 0, 0, .isub), (12, 3, 18, 0, 0, 0, .if_icmp .ne 6)] cs ss L st h) : G Model_splitsOpen d mc ms cs ss 10 L st h Q := G.run (by decide +kernel) hw
theorem B_Model_splitsOpen_15 {d mc ms cs ss : Nat} {L : List (Option Value)} {st : List Value} {h : g_H} {Q : g_Po} (hw : g_wp Model_splitsOpen d mc ms Q 18 [(15, 2, 0, 0, 0, (-3), .bipush (-3)), (17, 1, 0, 0, 0, 0, .ireturn)] cs ss L st h) : G Model_splitsOpen d mc ms cs ss 15 L st h Q := G.run (by decide +kernel) hw
theorem B_Model_splitsOpen_18 {d mc ms cs ss : Nat} {L : List (Option Value)} {st : List Value} {h : g_H} {Q : g_Po} (hw : g_wp Model_splitsOpen d mc ms Q 29 [(18, 1, 0, 0, 0, 0, .aload_n 0), (19, 3, 7, 0, 3145, 2, .getfield 7), (22, 1, 0, 0, 0, 0, .iconst 0), (23, 1, 0, 0, 0, 0, .iaload), (24, 2, 0, 0, 0, 10, .bipush 10), (26, 3, 32, 0, 0, 0, .if_icmp .ne 6)] cs ss L st h) : G Model_splitsOpen d mc ms cs ss 18 L st h Q := G.run (by decide +kernel) hw
theorem B_Model_splitsOpen_29 {d mc ms cs ss : Nat} {L : List (Option Value)} {st : List Value} {h : g_H} {Q : g_Po} (hw : g_wp Model_splitsOpen d mc ms Q 32 [(29, 2, 0, 0, 0, (-4), .bipush (-4)), (31, 1, 0, 0, 0, 0, .ireturn)] cs ss L st h) : G Model_splitsOpen d mc ms cs ss 29 L st h Q := G.run (by decide +kernel) hw
theorem B_Model_splitsOpen_32 {d mc ms cs ss : Nat} {L : List (Option Value)} {st : List Value} {h : g_H} {Q : g_Po} (hw : g_wp Model_splitsOpen d mc ms Q 36 [(32, 1, 0, 0, 0, 0, .aload_n 0), (33, 3, 110, 7, 3222, 0, .invokevirtual 81)] cs ss L st h) : G Model_splitsOpen d mc ms cs ss 32 L st h Q := G.run (by decide +kernel) hw
theorem B_Model_splitsOpen_36 {d mc ms cs ss : Nat} {L : List (Option Value)} {st : List Value} {h : g_H} {Q : g_Po} (hw : g_wp Model_splitsOpen d mc ms Q 50 [(36, 1, 0, 0, 0, 0, .aload_n 0), (37, 1, 0, 0, 0, 0, .iconst 0), (38, 3, 7, 12, 3157, 0, .putfield 70), (41, 1, 0, 0, 0, 0, .aload_n 0), (42, 1, 0, 0, 0, 0, .iload_n 1), (43, 1, 0, 0, 0, 0, .iload_n 2), (44, 1, 0, 0, 0, 1, .iconst 1), (45, 1, 0, 0, 0, 0, .aload_n 0), (46, 1, 0, 0, 0, 0, .iload_n 1), (47, 3, 119, 7, 4047, 1, .invokevirtual 57)] cs ss L st h) : G Model_splitsOpen d mc ms cs ss 36 L st h Q := G.run (by decide +kernel) hw
theorem B_Model_splitsOpen_50 {d mc ms cs ss : Nat} {L : List (Option Value)} {st : List Value} {h : g_H} {Q : g_Po} (hw : g_wp Model_splitsOpen d mc ms Q 55 [(50, 1, 0, 0, 0, 0, .iload_n 2), (51, 1, 0, 0, 0, 0, .isub), (52, 3, 128, 7, 4078, 4, .invokevirtual 125)] cs ss L st h) : G Model_splitsOpen d mc ms cs ss 50 L st h Q := G.run (by decide +kernel) hw
theorem B_Model_splitsOpen_55 {d mc ms cs ss : Nat} {L : List (Option Value)} {st : List Value} {h : g_H} {Q : g_Po} (hw : g_wp Model_splitsOpen d mc ms Q 60 [(55, 1, 0, 0, 0, 0, .aload_n 0), (56, 1, 0, 0, 0, 0, .iconst 0), (57, 3, 132, 7, 4000, 1, .invokevirtual 91)] cs ss L st h) : G Model_splitsOpen d mc ms cs ss 55 L st h Q := G.run (by decide +kernel) hw
theorem B_Model_splitsOpen_60 {d mc ms cs ss : Nat} {L : List (Option Value)} {st : List Value} {h : g_H} {Q : g_Po} (hw : g_wp Model_splitsOpen d mc ms Q 76 [(60, 1, 0, 0, 0, 0, .pop), (61, 1, 0, 0, 0, 0, .aload_n 0), (62, 1, 0, 0, 0, 0, .iconst 0), (63, 3, 7, 12, 3157, 0, .putfield 70), (66, 1, 0, 0, 0, 0, .aload_n 0), (67, 1, 0, 0, 0, 0, .iload_n 1), (68, 1, 0, 0, 0, 0, .iconst 0), (69, 1, 0, 0, 0, 1, .iconst 1), (70, 1, 0, 0, 0, 0, .iload_n 2), (71, 1, 0, 0, 0, 1, .iconst 1), (72, 1, 0, 0, 0, 0, .iadd), (73, 3, 128, 7, 4078, 4, .invokevirtual 125)] cs ss L st h) : G Model_splitsOpen d mc ms cs ss 60 L st h Q := G.run (by decide +kernel) hw
theorem B_Model_splitsOpen_76 {d mc ms cs ss : Nat} {L : List (Option Value)} {st : List Value} {h : g_H} {Q : g_Po} (hw : g_wp Model_splitsOpen d mc ms Q 82 [(76, 1, 0, 0, 0, 0, .aload_n 0), (77, 1, 0, 0, 0, 0, .iload_n 1), (78, 1, 0, 0, 0, 0, .iconst 0), (79, 3, 127, 7, 4004, 2, .invokevirtual 87)] cs ss L st h) : G Model_splitsOpen d mc ms cs ss 76 L st h Q := G.run (by decide +kernel) hw
theorem B_Model_splitsOpen_82 {d mc ms cs ss : Nat} {L : List (Option Value)} {st : List Value} {h : g_H} {Q : g_Po} (hw : g_wp Model_splitsOpen d mc ms Q 89 [(82, 1, 0, 0, 0, 0, .aload_n 0), (83, 3, 7, 0, 3145, 2, .getfield 7), (86, 1, 0, 0, 0, 0, .iconst 0), (87, 1, 0, 0, 0, 0, .iaload), (88, 1, 0, 0, 0, 0, .ireturn)] cs ss L st h) : G Model_splitsOpen d mc ms cs ss 82 L st h Q := G.run (by decide +kernel) hw
/-! blocks of Model_splitsClosed -/
theorem ml_Model_splitsClosed : (g_m Model_splitsClosed).2.2.1 = 3 := rfl
theorem rt_Model_splitsClosed : (g_m Model_splitsClosed).2.2.2.1 = (some .int) := rfl
theorem B_Model_splitsClosed_0 {d mc ms cs ss : Nat} {L : List (Option Value)} {st : List Value} {h : g_H} {Q : g_Po} (hw : g_wp Model_splitsClosed d mc ms Q 5 [(0, 1, 0, 0, 0, 0, .aload_n 0), (1, 1, 0, 0, 0, 0, .iload_n 1), (2, 3, 119, 7, 4047, 1, .invokevirtual 57)] cs ss L st h) : G Model_splitsClosed d mc ms cs ss 0 L st h Q := G.run (by decide +kernel) hw
theorem B_Model_splitsClosed_5 {d mc ms cs ss : Nat} {L : List (Option Value)} {st : List Value} {h : g_H} {Q : g_Po} (hw : g_wp Model_splitsClosed d mc ms Q 10 [(5, 2, 0, 0, 0, 30, .bipush 30), (7, 3, 13, 0, 0, 0, .if_icmp .ne 6)] cs ss L st h) : G Model_splitsClosed d mc ms cs ss 5 L st h Q := G.run (by decide +kernel) hw
theorem B_Model_splitsClosed_10 {d mc ms cs ss : Nat} {L : List (Option Value)} {st : List Value} {h : g_H} {Q : g_Po} (hw : g_wp Model_splitsClosed d mc ms Q 13 [(10, 2, 0, 0, 0, (-4), .bipush (-4)), (12, 1, 0, 0, 0, 0, .ireturn)] cs ss L st h) : G Model_splitsClosed d mc ms cs ss 10 L st h Q := G.run (by decide +kernel) hw
theorem B_Model_splitsClosed_13 {d mc ms cs ss : Nat} {L : List (Option Value)} {st : List Value} {h : g_H} {Q : g_Po} (hw : g_wp Model_splitsClosed d mc ms Q 17 [(13, 1, 0, 0, 0, 0, .aload_n 0), (14, 3, 110, 7, 3222, 0, .invokevirtual 81)] cs ss L st h) : G Model_splitsClosed d mc ms cs ss 13 L st h Q := G.run (by decide +kernel) hw
theorem B_Model_splitsClosed_17 {d mc ms cs ss : Nat} {L : List (Option Value)} {st : List Value} {h : g_H} {Q : g_Po} (hw : g_wp Model_splitsClosed d mc ms Q 31 [(17, 1, 0, 0, 0, 0, .aload_n 0), (18, 1, 0, 0, 0, 0, .iconst 0), (19, 3, 7, 12, 3157, 0, .putfield 70), (22, 1, 0, 0, 0, 0, .aload_n 0), (23, 1, 0, 0, 0, 0, .iload_n 1), (24, 1, 0, 0, 0, 0, .iload_n 2), (25, 1, 0, 0, 0, 1, .iconst 1), (26, 1, 0, 0, 0, 0, .aload_n 0), (27, 1, 0, 0, 0, 0, .iload_n 1), (28, 3, 119, 7, 4047, 1, .invokevirtual 57)] cs ss L st h) : G Model_splitsClosed d mc ms cs ss 17 L st h Q := G.run (by decide +kernel) hw
theorem B_Model_splitsClosed_31 {d mc ms cs ss : Nat} {L : List (Option Value)} {st : List Value} {h : g_H} {Q : g_Po} (hw : g_wp Model_splitsClosed d mc ms Q 36 [(31, 1, 0, 0, 0, 0, .iload_n 2), (32, 1, 0, 0, 0, 0, .isub), (33, 3, 128, 7, 4078, 4, .invokevirtual 125)] cs ss L st h) : G Model_splitsClosed d mc ms cs ss 31 L st h Q := G.run (by decide +kernel) hw
theorem B_Model_splitsClosed_36 {d mc ms cs ss : Nat} {L : List (Option Value)} {st : List Value} {h : g_H} {Q : g_Po} (hw : g_wp Model_splitsClosed d mc ms Q 46 [(36, 1, 0, 0, 0, 0, .aload_n 0), (37, 1, 0, 0, 0, 0, .iload_n 1), (38, 1, 0, 0, 0, 0, .iconst 0), (39, 1, 0, 0, 0, 1, .iconst 1), (40, 1, 0, 0, 0, 0, .iload_n 2), (41, 1, 0, 0, 0, 1, .iconst 1), (42, 1, 0, 0, 0, 0, .iadd), (43, 3, 128, 7, 4078, 4, .invokevirtual 125)] cs ss L st h) : G Model_splitsClosed d mc ms cs ss 36 L st h Q := G.run (by decide +kernel) hw
theorem B_Model_splitsClosed_46 {d mc ms cs ss : Nat} {L : List (Option Value)} {st : List Value} {h : g_H} {Q : g_Po} (hw : g_wp Model_splitsClosed d mc ms Q 52 [(46, 1, 0, 0, 0, 0, .aload_n 0), (47, 1, 0, 0, 0, 0, .iload_n 1), (48, 1, 0, 0, 0, 0, .iconst 0), (49, 3, 127, 7, 4004, 2, .invokevirtual 87)] cs ss L st h) : G Model_splitsClosed d mc ms cs ss 46 L st h Q := G.run (by decide +kernel) hw
theorem B_Model_splitsClosed_52 {d mc ms cs ss : Nat} {L : List (Option Value)} {st : List Value} {h : g_H} {Q : g_Po} (hw : g_wp Model_splitsClosed d mc ms Q 59 [(52, 1, 0, 0, 0, 0, .aload_n 0), (53, 3, 7, 0, 3145, 2, .getfield 7), (56, 1, 0, 0, 0, 0, .iconst 0), (57, 1, 0, 0, 0, 0, .iaload), (58, 1, 0, 0, 0, 0, .ireturn)] cs ss L st h) : G Model_splitsClosed d mc ms cs ss 52 L st h Q := G.run (by decide +kernel) hw
/-! blocks of Model_split -/
theorem ml_Model_split : (g_m Model_split).2.2.1 = 3 := rfl
theorem rt_Model_split : (g_m Model_split).2.2.2.1 = (some .int) := rfl
theorem B_Model_split_0 {d mc ms cs ss : Nat} {L : List (Option Value)} {st : List Value} {h : g_H} {Q : g_Po} (hw : g_wp Model_split d mc ms Q 5 [(0, 1, 0, 0, 0, 0, .aload_n 0), (1, 1, 0, 0, 0, 0, .iload_n 1), (2, 3, 116, 7, 4020, 1, .invokevirtual 129)] cs ss L st h) : G Model_split d mc ms cs ss 0 L st h Q := G.run (by decide +kernel) hw
theorem B_Model_split_5 {d mc ms cs ss : Nat} {L : List (Option Value)} {st : List Value} {h : g_H} {Q : g_Po} (hw : g_wp Model_split d mc ms Q 8 [(5, 3, 23, 0, 0, 0, .ifCond .eq 18)] cs ss L st h) : G Model_split d mc ms cs ss 5 L st h Q := G.run (by decide +kernel) hw
theorem B_Model_split_8 {d mc ms cs ss : Nat} {L : List (Option Value)} {st : List Value} {h : g_H} {Q : g_Po} (hw : g_wp Model_split d mc ms Q 15 [(8, 1, 0, 0, 0, 0, .iload_n 2), (9, 1, 0, 0, 0, 0, .iconst 0), (10, 1, 0, 0, 0, 0, .aload_n 0), (11, 1, 0, 0, 0, 0, .iload_n 1), (12, 3, 119, 7, 4047, 1, .invokevirtual 57)] cs ss L st h) : G Model_split d mc ms cs ss 8 L st h Q := G.run (by decide +kernel) hw
theorem B_Model_split_15 {d mc ms cs ss : Nat} {L : List (Option Value)} {st : List Value} {h : g_H} {Q : g_Po} (hw : g_wp Model_split d mc ms Q 20 [(15, 1, 0, 0, 0, 1, .iconst 1), (16, 1, 0, 0, 0, 0, .isub), (17, 3, 108, 0, 3219, 3, .invokestatic 45)] cs ss L st h) : G Model_split d mc ms cs ss 15 L st h Q := G.run (by decide +kernel) hw
theorem B_Model_split_20 {d mc ms cs ss : Nat} {L : List (Option Value)} {st : List Value} {h : g_H} {Q : g_Po} (hw : g_wp Model_split d mc ms Q 23 [(20, 3, 25, 0, 0, 0, .ifCond .ne 5)] cs ss L st h) : G Model_split d mc ms cs ss 20 L st h Q := G.run (by decide +kernel) hw
theorem B_Model_split_23 {d mc ms cs ss : Nat} {L : List (Option Value)} {st : List Value} {h : g_H} {Q : g_Po} (hw : g_wp Model_split d mc ms Q 25 [(23, 1, 0, 0, 0, (-1), .iconst (-1)), (24, 1, 0, 0, 0, 0, .ireturn)] cs ss L st h) : G Model_split d mc ms cs ss 23 L st h Q := G.run (by decide +kernel) hw
theorem B_Model_split_25 {d mc ms cs ss : Nat} {L : List (Option Value)} {st : List Value} {h : g_H} {Q : g_Po} (hw : g_wp Model_split d mc ms Q 30 [(25, 1, 0, 0, 0, 0, .aload_n 0), (26, 1, 0, 0, 0, 0, .iload_n 1), (27, 3, 120, 7, 4035, 1, .invokevirtual 61)] cs ss L st h) : G Model_split d mc ms cs ss 25 L st h Q := G.run (by decide +kernel) hw
theorem B_Model_split_30 {d mc ms cs ss : Nat} {L : List (Option Value)} {st : List Value} {h : g_H} {Q : g_Po} (hw : g_wp Model_split d mc ms Q 33 [(30, 3, 42, 0, 0, 0, .ifCond .eq 12)] cs ss L st h) : G Model_split d mc ms cs ss 30 L st h Q := G.run (by decide +kernel) hw
theorem B_Model_split_33 {d mc ms cs ss : Nat} {L : List (Option Value)} {st : List Value} {h : g_H} {Q : g_Po} (hw : g_wp Model_split d mc ms Q 39 [(33, 1, 0, 0, 0, 0, .aload_n 0), (34, 1, 0, 0, 0, 0, .iload_n 1), (35, 1, 0, 0, 0, 0, .iload_n 2), (36, 3, 164, 7, 4171, 2, .invokevirtual 194)] cs ss L st h) : G Model_split d mc ms cs ss 33 L st h Q := G.run (by decide +kernel) hw
theorem B_Model_split_39 {d mc ms cs ss : Nat} {L : List (Option Value)} {st : List Value} {h : g_H} {Q : g_Po} (hw : g_wp Model_split d mc ms Q 42 [(39, 3, 48, 0, 0, 0, .goto 9)] cs ss L st h) : G Model_split d mc ms cs ss 39 L st h Q := G.run (by decide +kernel) hw
theorem B_Model_split_42 {d mc ms cs ss : Nat} {L : List (Option Value)} {st : List Value} {h : g_H} {Q : g_Po} (hw : g_wp Model_split d mc ms Q 48 [(42, 1, 0, 0, 0, 0, .aload_n 0), (43, 1, 0, 0, 0, 0, .iload_n 1), (44, 1, 0, 0, 0, 0, .iload_n 2), (45, 3, 163, 7, 4175, 2, .invokevirtual 197)] cs ss L st h) : G Model_split d mc ms cs ss 42 L st h Q := G.run (by decide +kernel) hw
theorem B_Model_split_48 {d mc ms cs ss : Nat} {L : List (Option Value)} {st : List Value} {h : g_H} {Q : g_Po} (hw : g_wp Model_split d mc ms Q 49 [(48, 1, 0, 0, 0, 0, .ireturn)] cs ss L st h) : G Model_split d mc ms cs ss 48 L st h Q := G.run (by decide +kernel) hw
/-! blocks of Model_remove -/
theorem ml_Model_remove : (g_m Model_remove).2.2.1 = 2 := rfl
theorem rt_Model_remove : (g_m Model_remove).2.2.2.1 = (some .int) := rfl
theorem B_Model_remove_0 {d mc ms cs ss : Nat} {L : List (Option Value)} {st : List Value} {h : g_H} {Q : g_Po} (hw : g_wp Model_remove d mc ms Q 5 [(0, 1, 0, 0, 0, 0, .aload_n 0), (1, 1, 0, 0, 0, 0, .iload_n 1), (2, 3, 116, 7, 4020, 1, .invokevirtual 129)] cs ss L st h) : G Model_remove d mc ms cs ss 0 L st h Q := G.run (by decide +kernel) hw
theorem B_Model_remove_5 {d mc ms cs ss : Nat} {L : List (Option Value)} {st : List Value} {h : g_H} {Q : g_Po} (hw : g_wp Model_remove d mc ms Q 8 [(5, 3, 10, 0, 0, 0, .ifCond .ne 5)] cs ss L st h) : G Model_remove d mc ms cs ss 5 L st h Q := G.run (by decide +kernel) hw
theorem B_Model_remove_8 {d mc ms cs ss : Nat} {L : List (Option Value)} {st : List Value} {h : g_H} {Q : g_Po} (hw : g_wp Model_remove d mc ms Q 10 [(8, 1, 0, 0, 0, (-1), .iconst (-1)), (9, 1, 0, 0, 0, 0, .ireturn)] cs ss L st h) : G Model_remove d mc ms cs ss 8 L st h Q := G.run (by decide +kernel) hw
theorem B_Model_remove_10 {d mc ms cs ss : Nat} {L : List (Option Value)} {st : List Value} {h : g_H} {Q : g_Po} (hw : g_wp Model_remove d mc ms Q 14 [(10, 1, 0, 0, 0, 0, .aload_n 0), (11, 3, 110, 7, 3222, 0, .invokevirtual 81)] cs ss L st h) : G Model_remove d mc ms cs ss 10 L st h Q := G.run (by decide +kernel) hw
theorem B_Model_remove_14 {d mc ms cs ss : Nat} {L : List (Option Value)} {st : List Value} {h : g_H} {Q : g_Po} (hw : g_wp Model_remove d mc ms Q 19 [(14, 1, 0, 0, 0, 0, .aload_n 0), (15, 1, 0, 0, 0, 0, .iload_n 1), (16, 3, 129, 7, 4140, 1, .invokevirtual 181)] cs ss L st h) : G Model_remove d mc ms cs ss 14 L st h Q := G.run (by decide +kernel) hw
theorem B_Model_remove_19 {d mc ms cs ss : Nat} {L : List (Option Value)} {st : List Value} {h : g_H} {Q : g_Po} (hw : g_wp Model_remove d mc ms Q 26 [(19, 1, 0, 0, 0, 0, .aload_n 0), (20, 3, 7, 0, 3145, 2, .getfield 7), (23, 1, 0, 0, 0, 0, .iconst 0), (24, 1, 0, 0, 0, 0, .iaload), (25, 1, 0, 0, 0, 0, .ireturn)] cs ss L st h) : G Model_remove d mc ms cs ss 19 L st h Q := G.run (by decide +kernel) hw
/-! blocks of Model_toTop -/
theorem ml_Model_toTop : (g_m Model_toTop).2.2.1 = 3 := rfl
theorem rt_Model_toTop : (g_m Model_toTop).2.2.2.1 = (some .int) := rfl
theorem B_Model_toTop_0 {d mc ms cs ss : Nat} {L : List (Option Value)} {st : List Value} {h : g_H} {Q : g_Po} (hw : g_wp Model_toTop d mc ms Q 5 [(0, 1, 0, 0, 0, 0, .aload_n 0), (1, 1, 0, 0, 0, 0, .iload_n 1), (2, 3, 116, 7, 4020, 1, .invokevirtual 129)] cs ss L st h) : G Model_toTop d mc ms cs ss 0 L st h Q := G.run (by decide +kernel) hw
theorem B_Model_toTop_5 {d mc ms cs ss : Nat} {L : List (Option Value)} {st : List Value} {h : g_H} {Q : g_Po} (hw : g_wp Model_toTop d mc ms Q 8 [(5, 3, 10, 0, 0, 0, .ifCond .ne 5)] cs ss L st h) : G Model_toTop d mc ms cs ss 5 L st h Q := G.run (by decide +kernel) hw
theorem B_Model_toTop_8 {d mc ms cs ss : Nat} {L : List (Option Value)} {st : List Value} {h : g_H} {Q : g_Po} (hw : g_wp Model_toTop d mc ms Q 10 [(8, 1, 0, 0, 0, (-1), .iconst (-1)), (9, 1, 0, 0, 0, 0, .ireturn)] cs ss L st h) : G Model_toTop d mc ms cs ss 8 L st h Q := G.run (by decide +kernel) hw
theorem B_Model_toTop_10 {d mc ms cs ss : Nat} {L : List (Option Value)} {st : List Value} {h : g_H} {Q : g_Po} (hw : g_wp Model_toTop d mc ms Q 14 [(10, 1, 0, 0, 0, 0, .aload_n 0), (11, 3, 110, 7, 3222, 0, .invokevirtual 81)] cs ss L st h) : G Model_toTop d mc ms cs ss 10 L st h Q := G.run (by decide +kernel) hw
theorem B_Model_toTop_14 {d mc ms cs ss : Nat} {L : List (Option Value)} {st : List Value} {h : g_H} {Q : g_Po} (hw : g_wp Model_toTop d mc ms Q 28 [(14, 1, 0, 0, 0, 0, .aload_n 0), (15, 1, 0, 0, 0, 0, .iconst 0), (16, 3, 7, 12, 3157, 0, .putfield 70), (19, 1, 0, 0, 0, 0, .aload_n 0), (20, 1, 0, 0, 0, 0, .iload_n 1), (21, 1, 0, 0, 0, 0, .iconst 0), (22, 1, 0, 0, 0, 1, .iconst 1), (23, 1, 0, 0, 0, 0, .aload_n 0), (24, 1, 0, 0, 0, 0, .iload_n 1), (25, 3, 119, 7, 4047, 1, .invokevirtual 57)] cs ss L st h) : G Model_toTop d mc ms cs ss 14 L st h Q := G.run (by decide +kernel) hw
theorem B_Model_toTop_28 {d mc ms cs ss : Nat} {L : List (Option Value)} {st : List Value} {h : g_H} {Q : g_Po} (hw : g_wp Model_toTop d mc ms Q 31 [(28, 3, 128, 7, 4078, 4, .invokevirtual 125)] cs ss L st h) : G Model_toTop d mc ms cs ss 28 L st h Q := G.run (by decide +kernel) hw
theorem B_Model_toTop_31 {d mc ms cs ss : Nat} {L : List (Option Value)} {st : List Value} {h : g_H} {Q : g_Po} (hw : g_wp Model_toTop d mc ms Q 36 [(31, 1, 0, 0, 0, 0, .aload_n 0), (32, 1, 0, 0, 0, 0, .iload_n 1), (33, 3, 120, 7, 4035, 1, .invokevirtual 61)] cs ss L st h) : G Model_toTop d mc ms cs ss 31 L st h Q := G.run (by decide +kernel) hw
theorem B_Model_toTop_36 {d mc ms cs ss : Nat} {L : List (Option Value)} {st : List Value} {h : g_H} {Q : g_Po} (hw : g_wp Model_toTop d mc ms Q 42 [(36, 1, 0, 0, 0, 0, .istore_n 2), (37, 1, 0, 0, 0, 0, .aload_n 0), (38, 1, 0, 0, 0, 0, .iload_n 1), (39, 3, 129, 7, 4140, 1, .invokevirtual 181)] cs ss L st h) : G Model_toTop d mc ms cs ss 36 L st h Q := G.run (by decide +kernel) hw
theorem B_Model_toTop_42 {d mc ms cs ss : Nat} {L : List (Option Value)} {st : List Value} {h : g_H} {Q : g_Po} (hw : g_wp Model_toTop d mc ms Q 47 [(42, 1, 0, 0, 0, 0, .aload_n 0), (43, 1, 0, 0, 0, 0, .iload_n 2), (44, 3, 132, 7, 4000, 1, .invokevirtual 91)] cs ss L st h) : G Model_toTop d mc ms cs ss 42 L st h Q := G.run (by decide +kernel) hw
theorem B_Model_toTop_47 {d mc ms cs ss : Nat} {L : List (Option Value)} {st : List Value} {h : g_H} {Q : g_Po} (hw : g_wp Model_toTop d mc ms Q 48 [(47, 1, 0, 0, 0, 0, .ireturn)] cs ss L st h) : G Model_toTop d mc ms cs ss 47 L st h Q := G.run (by decide +kernel) hw
theorem wfL.set {Ss : List Stk} (w : wfL Ss) {i : Nat} {L : List Int} {z : Bool} (hi : i < Ss.length) (h1 : 1 ≤ L.length) (h2 : L.length ≤ 30) (h3 : stP L) : wfL (Ss.set i (L, z)) := by
  refine ⟨by rw [List.length_set]; exact w.1, fun j hj => ?_⟩
  rw [List.length_set] at hj
  rw [sg_set _ _ _ hi]
  split
  · exact ⟨h1, h2, h3⟩
  · exact w.2 j hj
theorem pts.nil {r : Nat → Int} {A : Nat → Nat → Int} : pts (ui r 12 0) A [] := ⟨ui_s _ _ _, by simp, fun k hk => absurd hk (by simp)⟩
theorem set_app {Ss Ts : List Stk} {i : Nat} {S : Stk} (hi : i < Ss.length) : (Ss ++ Ts).set i S = Ss.set i S ++ Ts := by
  apply sg_ext
  · simp
  · intro k hk
    rw [sg_set _ _ _ (by rw [List.length_append]; omega)]
    by_cases c : k < Ss.length
    · rw [sg_app_l Ss Ts c, sg_app_l (Ss.set i S) Ts (by rw [List.length_set]; exact c), sg_set _ _ _ hi]
    · rw [if_neg (by omega), sg_app_r Ss Ts (by omega), sg_app_r (Ss.set i S) Ts (by rw [List.length_set]; omega), List.length_set]
theorem Mdl_rem_c {d M : Nat} (hd : 9 ≤ d) {W : Wd} {s : Int} {h : g_H} {Q : g_Po} (w : wfW W) (hp : mrep h M W) (hs : i32 s) (hQ : MQ9 M h Q (sp_rem W s)) : Call Model_remove d 0 0 [.ref M, .int (I s)] h Q := by
  have d1 : 1 ≤ d := by omega
  obtain ⟨⟨Ss, pn⟩, Hs, T, l⟩ := W
  obtain ⟨r, A, hm, ht⟩ := id hp
  have wl := w.g.1.l
  have k0 := ex_ie (x := 0) (i := 0) (n := 352) rfl (by omega)
  unfold sp_rem at hQ
  dsimp only at hQ
  refine Call.intro (by rfl) (Nat.le_of_ble_eq_true rfl) ?_
  refine G.eqL (L := [some (.ref _), some (.int _)]) rfl ?_
  refine B_Model_remove_0 ?_
  simp only [wp_cons, wp_nil, List.getElem?_cons_zero, List.getElem?_cons_succ, List.set_cons_zero, List.set_cons_succ, s_aload_n0, ldA_r, ldA_n, s_iload_n1, ldI_s, s_invokevirtual, rc_s, ob_s, List.drop_succ_cons, List.drop_zero, List.take_succ_cons, List.take_zero, List.reverse_cons, List.reverse_nil, List.nil_append, List.cons_append, List.length_cons, List.length_nil, d1, Int.reduceToNat, Nat.reduceAdd, Nat.reduceLeDiff, true_and, and_true, Nat.le_refl, true_implies, forall_const, not_false_eq_true, false_implies, not_true_eq_false, reduceCtorEq, tl_s, tl_n, rf_s, true_or, or_true, hm.c]
  refine Mdl_isS2_c (by omega) hm ht.1 wl hs (fun c1 => ?_) (fun c1 => ?_)
  · rw [if_neg (fun q => q c1)] at hQ
    obtain ⟨i, rfl, hi⟩ := nat_of c1
    replace hi : i < Ss.length := hi
    rw [tn_i] at hQ
    refine B_Model_remove_5 ?_
    simp only [wp_cons, wp_nil, List.getElem?_cons_zero, List.getElem?_cons_succ, List.set_cons_zero, List.set_cons_succ, s_ifCond_ne, p1_s, true_and, and_true, Nat.le_refl, true_implies, forall_const, not_false_eq_true, false_implies, not_true_eq_false, reduceCtorEq, tl_s, tl_n, rf_s, List.cons_append, List.nil_append, true_or, or_true, hm.c]
    refine b_ne (by omega) (by omega) (fun cc => ?_) (fun cc => absurd cc (by omega))
    refine B_Model_remove_10 ?_
    simp only [wp_cons, wp_nil, List.getElem?_cons_zero, List.getElem?_cons_succ, List.set_cons_zero, List.set_cons_succ, s_aload_n0, ldA_r, ldA_n, s_invokevirtual, rc_s, ob_s, List.drop_succ_cons, List.drop_zero, List.take_succ_cons, List.take_zero, List.reverse_cons, List.reverse_nil, List.nil_append, List.cons_append, List.length_cons, List.length_nil, d1, Int.reduceToNat, Nat.reduceAdd, Nat.reduceLeDiff, true_and, and_true, Nat.le_refl, true_implies, forall_const, not_false_eq_true, false_implies, not_true_eq_false, reduceCtorEq, tl_s, tl_n, rf_s, true_or, or_true, hm.c]
    refine Mdl_rec_c (by omega) hm ht w (fun h1 r1 A1 c1' m1 e1 e2 s1 => ?_)
    refine B_Model_remove_14 ?_
    simp only [wp_cons, wp_nil, List.getElem?_cons_zero, List.getElem?_cons_succ, List.set_cons_zero, List.set_cons_succ, s_aload_n0, ldA_r, ldA_n, s_iload_n1, ldI_s, s_invokevirtual, rc_s, ob_s, List.drop_succ_cons, List.drop_zero, List.take_succ_cons, List.take_zero, List.reverse_cons, List.reverse_nil, List.nil_append, List.cons_append, List.length_cons, List.length_nil, d1, Int.reduceToNat, Nat.reduceAdd, Nat.reduceLeDiff, true_and, and_true, Nat.le_refl, true_implies, forall_const, not_false_eq_true, false_implies, not_true_eq_false, reduceCtorEq, tl_s, tl_n, rf_s, true_or, or_true, m1.c]
    refine Mdl_out_c (by omega) m1 s1.1 wl w.g.2.1.1 hi (fun h2 A2 c2 m2 e3 s2 => ?_)
    have a1 : A2 1 0 = (Ss.length : Int) - 1 := by
      have := s2.1
      rw [this]
      show ((Ss.eraseIdx i).length : Int) = _
      rw [List.length_eraseIdx, if_pos hi]; omega
    refine B_Model_remove_19 ?_
    simp only [wp_cons, wp_nil, List.getElem?_cons_zero, List.getElem?_cons_succ, List.set_cons_zero, List.set_cons_succ, s_aload_n0, ldA_r, ldA_n, s_getfield, pR_s, ob_s, gt_s, s_iconst, s_iaload, iR_s, ia_s, s_ireturn, p1_s, rI_i, rI_z, rI_c, z_01, z_11, rt_Model_remove, true_and, and_true, Nat.le_refl, true_implies, forall_const, not_false_eq_true, false_implies, not_true_eq_false, reduceCtorEq, tl_s, tl_n, rf_s, List.cons_append, List.nil_append, true_or, or_true, m2.c, m2.g1, a1, k0, ex_ie]
    exact hQ h2 (c1'.tr c2) ⟨_, _, m2, s1.s1 s2 (fun n hn => e3 n (by omega)) rfl rfl⟩
  · rw [if_pos c1] at hQ
    refine B_Model_remove_5 ?_
    simp only [wp_cons, wp_nil, List.getElem?_cons_zero, List.getElem?_cons_succ, List.set_cons_zero, List.set_cons_succ, s_ifCond_ne, p1_s, true_and, and_true, Nat.le_refl, true_implies, forall_const, not_false_eq_true, false_implies, not_true_eq_false, reduceCtorEq, tl_s, tl_n, rf_s, List.cons_append, List.nil_append, true_or, or_true, hm.c]
    refine B_Model_remove_8 ?_
    simp only [wp_cons, wp_nil, List.getElem?_cons_zero, List.getElem?_cons_succ, List.set_cons_zero, List.set_cons_succ, s_iconst, s_ireturn, p1_s, rI_i, rI_z, rI_c, z_01, z_11, rt_Model_remove, true_and, and_true, Nat.le_refl, true_implies, forall_const, not_false_eq_true, false_implies, not_true_eq_false, reduceCtorEq, tl_s, tl_n, rf_s, List.cons_append, List.nil_append, true_or, or_true, hm.c]
    exact hQ h chg.rf hp
theorem stR.st {f : Nat → Int} {Ss : List Stk} {pn : Stk} {i : Nat} (hr : stR f (Ss, pn)) (hi : i < Ss.length) : f (32 + 32 * i) = (sg Ss i).1.length ∧ f (33 + 32 * i) = sz (sg Ss i).2 ∧ ∀ k, k < (sg Ss i).1.length → f (34 + 32 * i + k) = pg (sg Ss i).1 k := hr.2.2.2 i hi
theorem Mdl_top_c {d M : Nat} (hd : 9 ≤ d) {W : Wd} {s : Int} {h : g_H} {Q : g_Po} (w : wfW W) (hp : mrep h M W) (hs : i32 s) (hQ : MQ9 M h Q (sp_top W s)) : Call Model_toTop d 0 0 [.ref M, .int (I s)] h Q := by
  have d1 : 1 ≤ d := by omega
  obtain ⟨⟨Ss, pn⟩, Hs, T, l⟩ := W
  obtain ⟨r, A, hm, ht⟩ := id hp
  have wl := w.g.1.l
  unfold sp_top at hQ
  dsimp only at hQ
  refine Call.intro (by rfl) (Nat.le_of_ble_eq_true rfl) ?_
  refine G.eqL (L := [some (.ref _), some (.int _), none]) rfl ?_
  refine B_Model_toTop_0 ?_
  simp only [wp_cons, wp_nil, List.getElem?_cons_zero, List.getElem?_cons_succ, List.set_cons_zero, List.set_cons_succ, s_aload_n0, ldA_r, ldA_n, s_iload_n1, ldI_s, s_invokevirtual, rc_s, ob_s, List.drop_succ_cons, List.drop_zero, List.take_succ_cons, List.take_zero, List.reverse_cons, List.reverse_nil, List.nil_append, List.cons_append, List.length_cons, List.length_nil, d1, Int.reduceToNat, Nat.reduceAdd, Nat.reduceLeDiff, true_and, and_true, Nat.le_refl, true_implies, forall_const, not_false_eq_true, false_implies, not_true_eq_false, reduceCtorEq, tl_s, tl_n, rf_s, true_or, or_true, hm.c]
  refine Mdl_isS2_c (by omega) hm ht.1 wl hs (fun c1 => ?_) (fun c1 => ?_)
  · rw [if_neg (fun q => q c1)] at hQ
    obtain ⟨i, rfl, hi⟩ := nat_of c1
    replace hi : i < Ss.length := hi
    rw [tn_i] at hQ
    have wi := wl.2 i hi
    have w0 := wl.1
    refine B_Model_toTop_5 ?_
    simp only [wp_cons, wp_nil, List.getElem?_cons_zero, List.getElem?_cons_succ, List.set_cons_zero, List.set_cons_succ, s_ifCond_ne, p1_s, true_and, and_true, Nat.le_refl, true_implies, forall_const, not_false_eq_true, false_implies, not_true_eq_false, reduceCtorEq, tl_s, tl_n, rf_s, List.cons_append, List.nil_append, true_or, or_true, hm.c]
    refine b_ne (by omega) (by omega) (fun cc => ?_) (fun cc => absurd cc (by omega))
    refine B_Model_toTop_10 ?_
    simp only [wp_cons, wp_nil, List.getElem?_cons_zero, List.getElem?_cons_succ, List.set_cons_zero, List.set_cons_succ, s_aload_n0, ldA_r, ldA_n, s_invokevirtual, rc_s, ob_s, List.drop_succ_cons, List.drop_zero, List.take_succ_cons, List.take_zero, List.reverse_cons, List.reverse_nil, List.nil_append, List.cons_append, List.length_cons, List.length_nil, d1, Int.reduceToNat, Nat.reduceAdd, Nat.reduceLeDiff, true_and, and_true, Nat.le_refl, true_implies, forall_const, not_false_eq_true, false_implies, not_true_eq_false, reduceCtorEq, tl_s, tl_n, rf_s, true_or, or_true, hm.c]
    refine Mdl_rec_c (by omega) hm ht w (fun h1 r1 A1 c1' m1 e1 e2 s1 => ?_)
    have m2 := m1.f12 0
    obtain ⟨t1, t2, t3⟩ := s1.1.st hi
    refine B_Model_toTop_14 ?_
    simp only [wp_cons, wp_nil, List.getElem?_cons_zero, List.getElem?_cons_succ, List.set_cons_zero, List.set_cons_succ, s_aload_n0, ldA_r, ldA_n, s_iconst, s_putfield, pv_i, pv_z, pv_r, pv_f, ob_s, z_01, z_11, List.length_cons, List.length_nil, s_iload_n1, ldI_s, s_invokevirtual, rc_s, List.drop_succ_cons, List.drop_zero, List.take_succ_cons, List.take_zero, List.reverse_cons, List.reverse_nil, List.nil_append, List.cons_append, d1, Int.reduceToNat, Nat.reduceAdd, Nat.reduceLeDiff, true_and, and_true, Nat.le_refl, true_implies, forall_const, not_false_eq_true, false_implies, not_true_eq_false, reduceCtorEq, tl_s, tl_n, rf_s, true_or, or_true, m1.c, m2.c, Nat.reduceLT]
    refine Mdl_len_c (by omega) m2 s1.1 wl hi ?_
    refine B_Model_toTop_28 ?_
    simp only [wp_cons, wp_nil, List.getElem?_cons_zero, List.getElem?_cons_succ, List.set_cons_zero, List.set_cons_succ, s_invokevirtual, rc_s, ob_s, List.drop_succ_cons, List.drop_zero, List.take_succ_cons, List.take_zero, List.reverse_cons, List.reverse_nil, List.nil_append, List.cons_append, List.length_cons, List.length_nil, d1, Int.reduceToNat, Nat.reduceAdd, Nat.reduceLeDiff, true_and, and_true, Nat.le_refl, true_implies, forall_const, not_false_eq_true, false_implies, not_true_eq_false, reduceCtorEq, tl_s, tl_n, rf_s, true_or, or_true, m1.c, m2.c, Nat.reduceLT]
    refine Mdl_takes_c (by omega) (c := (sg Ss i).1.length) (g := pg (sg Ss i).1) m2 pts.nil (by show 0 + (sg Ss i).1.length ≤ 64; omega) (fun k hk => ⟨34 + 32 * i + k, by omega, by omega, t3 k hk⟩) (fun h3 r3 A3 c3 m3 e3 e4 p3 => ?_)
    rw [List.nil_append, lf_eq rfl (fun k _ => rfl)] at p3
    have s3 : stR (A3 1) (Ss, pn) := by rw [e4 1 (by omega)]; exact s1.1
    refine B_Model_toTop_31 ?_
    simp only [wp_cons, wp_nil, List.getElem?_cons_zero, List.getElem?_cons_succ, List.set_cons_zero, List.set_cons_succ, s_aload_n0, ldA_r, ldA_n, s_iload_n1, ldI_s, s_invokevirtual, rc_s, ob_s, List.drop_succ_cons, List.drop_zero, List.take_succ_cons, List.take_zero, List.reverse_cons, List.reverse_nil, List.nil_append, List.cons_append, List.length_cons, List.length_nil, d1, Int.reduceToNat, Nat.reduceAdd, Nat.reduceLeDiff, true_and, and_true, Nat.le_refl, true_implies, forall_const, not_false_eq_true, false_implies, not_true_eq_false, reduceCtorEq, tl_s, tl_n, rf_s, true_or, or_true, m3.c]
    refine Mdl_clo_c (by omega) m3 s3 wl hi ?_
    refine B_Model_toTop_36 ?_
    simp only [wp_cons, wp_nil, List.getElem?_cons_zero, List.getElem?_cons_succ, List.set_cons_zero, List.set_cons_succ, s_istore_n2, p1_s, s1_0, s1_s, kx_i, kx_r, kx_n, kx_l, kx_0, s_aload_n0, ldA_r, ldA_n, s_iload_n1, ldI_s, s_invokevirtual, rc_s, ob_s, List.drop_succ_cons, List.drop_zero, List.take_succ_cons, List.take_zero, List.reverse_cons, List.reverse_nil, List.nil_append, List.cons_append, List.length_cons, List.length_nil, d1, Int.reduceToNat, Nat.reduceAdd, Nat.reduceLeDiff, true_and, and_true, Nat.le_refl, true_implies, forall_const, not_false_eq_true, false_implies, not_true_eq_false, reduceCtorEq, tl_s, tl_n, rf_s, true_or, or_true, m3.c]
    refine Mdl_out_c (by omega) m3 s3 wl w.g.2.1.1 hi (fun h4 A4 c4 m4 e5 s4 => ?_)
    have hle : (Ss.eraseIdx i).length = Ss.length - 1 := by rw [List.length_eraseIdx, if_pos hi]
    refine B_Model_toTop_42 ?_
    simp only [wp_cons, wp_nil, List.getElem?_cons_zero, List.getElem?_cons_succ, List.set_cons_zero, List.set_cons_succ, s_aload_n0, ldA_r, ldA_n, s_iload_n2, ldI_s, s_invokevirtual, rc_s, ob_s, List.drop_succ_cons, List.drop_zero, List.take_succ_cons, List.take_zero, List.reverse_cons, List.reverse_nil, List.nil_append, List.cons_append, List.length_cons, List.length_nil, d1, Int.reduceToNat, Nat.reduceAdd, Nat.reduceLeDiff, true_and, and_true, Nat.le_refl, true_implies, forall_const, not_false_eq_true, false_implies, not_true_eq_false, reduceCtorEq, tl_s, tl_n, rf_s, true_or, or_true, m4.c]
    refine Mdl_adds_c (by omega) m4 (L := (sg Ss i).1) ⟨p3.1, p3.2.1, fun k hk => by rw [e5 9 (by omega)]; exact p3.2.2 k hk⟩ wi.2.1 s4 (fun j hj => by rw [sg_erase]; split; exact (wl.2 j (by omega)).2.1; exact (wl.2 (j + 1) (by omega)).2.1) w.g.2.1.1 (by omega) (fun h5 A5 c5 m5 e6 s5 => ?_)
    refine B_Model_toTop_47 ?_
    simp only [wp_cons, wp_nil, List.getElem?_cons_zero, List.getElem?_cons_succ, List.set_cons_zero, List.set_cons_succ, s_ireturn, p1_s, rI_i, rI_z, rI_c, z_01, z_11, rt_Model_toTop, true_and, and_true, Nat.le_refl, true_implies, forall_const, not_false_eq_true, false_implies, not_true_eq_false, reduceCtorEq, tl_s, tl_n, rf_s, List.cons_append, List.nil_append, true_or, or_true, m4.c]
    rw [show ((Ss.eraseIdx i).length : Int) = (Ss.length : Int) - 1 by omega]
    exact hQ h5 ((((c1'.tr (chg.set _ (by omega))).tr c3).tr c4).tr c5) ⟨_, _, m5, s1.s1 s5 (fun n hn => by rw [e6 n (by omega), e5 n (by omega), e4 n (by omega)]) (by rw [e3 3 (by omega), ui_n _ _ (by omega)]) (by rw [e3 5 (by omega), ui_n _ _ (by omega)])⟩
  · rw [if_pos c1] at hQ
    refine B_Model_toTop_5 ?_
    simp only [wp_cons, wp_nil, List.getElem?_cons_zero, List.getElem?_cons_succ, List.set_cons_zero, List.set_cons_succ, s_ifCond_ne, p1_s, true_and, and_true, Nat.le_refl, true_implies, forall_const, not_false_eq_true, false_implies, not_true_eq_false, reduceCtorEq, tl_s, tl_n, rf_s, List.cons_append, List.nil_append, true_or, or_true, hm.c]
    refine B_Model_toTop_8 ?_
    simp only [wp_cons, wp_nil, List.getElem?_cons_zero, List.getElem?_cons_succ, List.set_cons_zero, List.set_cons_succ, s_iconst, s_ireturn, p1_s, rI_i, rI_z, rI_c, z_01, z_11, rt_Model_toTop, true_and, and_true, Nat.le_refl, true_implies, forall_const, not_false_eq_true, false_implies, not_true_eq_false, reduceCtorEq, tl_s, tl_n, rf_s, List.cons_append, List.nil_append, true_or, or_true, hm.c]
    exact hQ h chg.rf hp
theorem Mdl_rev_c {d M : Nat} (hd : 9 ≤ d) {W : Wd} {s : Int} {h : g_H} {Q : g_Po} (w : wfW W) (hp : mrep h M W) (hs : i32 s) (hQ : MQ9 M h Q (sp_rev W s)) : Call Model_reverse d 0 0 [.ref M, .int (I s)] h Q := by
  have d1 : 1 ≤ d := by omega
  obtain ⟨⟨Ss, pn⟩, Hs, T, l⟩ := W
  obtain ⟨r, A, hm, ht⟩ := id hp
  have wl := w.g.1.l
  unfold sp_rev at hQ
  dsimp only at hQ
  refine Call.intro (by rfl) (Nat.le_of_ble_eq_true rfl) ?_
  refine G.eqL (L := [some (.ref _), some (.int _)]) rfl ?_
  refine B_Model_reverse_0 ?_
  simp only [wp_cons, wp_nil, List.getElem?_cons_zero, List.getElem?_cons_succ, List.set_cons_zero, List.set_cons_succ, s_aload_n0, ldA_r, ldA_n, s_iload_n1, ldI_s, s_invokevirtual, rc_s, ob_s, List.drop_succ_cons, List.drop_zero, List.take_succ_cons, List.take_zero, List.reverse_cons, List.reverse_nil, List.nil_append, List.cons_append, List.length_cons, List.length_nil, d1, Int.reduceToNat, Nat.reduceAdd, Nat.reduceLeDiff, true_and, and_true, Nat.le_refl, true_implies, forall_const, not_false_eq_true, false_implies, not_true_eq_false, reduceCtorEq, tl_s, tl_n, rf_s, true_or, or_true, hm.c]
  refine Mdl_isS2_c (by omega) hm ht.1 wl hs (fun c1 => ?_) (fun c1 => ?_)
  · rw [if_neg (fun q => q c1)] at hQ
    obtain ⟨i, rfl, hi⟩ := nat_of c1
    replace hi : i < Ss.length := hi
    rw [tn_i] at hQ
    have wi := wl.2 i hi
    have w0 := wl.1
    refine B_Model_reverse_5 ?_
    simp only [wp_cons, wp_nil, List.getElem?_cons_zero, List.getElem?_cons_succ, List.set_cons_zero, List.set_cons_succ, s_ifCond_ne, p1_s, true_and, and_true, Nat.le_refl, true_implies, forall_const, not_false_eq_true, false_implies, not_true_eq_false, reduceCtorEq, tl_s, tl_n, rf_s, List.cons_append, List.nil_append, true_or, or_true, hm.c]
    refine b_ne (by omega) (by omega) (fun cc => ?_) (fun cc => absurd cc (by omega))
    refine B_Model_reverse_10 ?_
    simp only [wp_cons, wp_nil, List.getElem?_cons_zero, List.getElem?_cons_succ, List.set_cons_zero, List.set_cons_succ, s_aload_n0, ldA_r, ldA_n, s_invokevirtual, rc_s, ob_s, List.drop_succ_cons, List.drop_zero, List.take_succ_cons, List.take_zero, List.reverse_cons, List.reverse_nil, List.nil_append, List.cons_append, List.length_cons, List.length_nil, d1, Int.reduceToNat, Nat.reduceAdd, Nat.reduceLeDiff, true_and, and_true, Nat.le_refl, true_implies, forall_const, not_false_eq_true, false_implies, not_true_eq_false, reduceCtorEq, tl_s, tl_n, rf_s, true_or, or_true, hm.c]
    refine Mdl_rec_c (by omega) hm ht w (fun h1 r1 A1 c1' m1 e1 e2 s1 => ?_)
    have m2 := m1.f12 0
    obtain ⟨t1, t2, t3⟩ := s1.1.st hi
    refine B_Model_reverse_14 ?_
    simp only [wp_cons, wp_nil, List.getElem?_cons_zero, List.getElem?_cons_succ, List.set_cons_zero, List.set_cons_succ, s_aload_n0, ldA_r, ldA_n, s_iconst, s_putfield, pv_i, pv_z, pv_r, pv_f, ob_s, z_01, z_11, List.length_cons, List.length_nil, s_iload_n1, ldI_s, s_invokevirtual, rc_s, List.drop_succ_cons, List.drop_zero, List.take_succ_cons, List.take_zero, List.reverse_cons, List.reverse_nil, List.nil_append, List.cons_append, d1, Int.reduceToNat, Nat.reduceAdd, Nat.reduceLeDiff, true_and, and_true, Nat.le_refl, true_implies, forall_const, not_false_eq_true, false_implies, not_true_eq_false, reduceCtorEq, tl_s, tl_n, rf_s, true_or, or_true, m1.c, m2.c, Nat.reduceLT]
    refine Mdl_len_c (by omega) m2 s1.1 wl hi ?_
    refine B_Model_reverse_26 ?_
    simp only [wp_cons, wp_nil, List.getElem?_cons_zero, List.getElem?_cons_succ, List.set_cons_zero, List.set_cons_succ, s_iconst, s_isub, p2_s, I_sub, s_aload_n0, ldA_r, ldA_n, s_iload_n1, ldI_s, s_invokevirtual, rc_s, ob_s, List.drop_succ_cons, List.drop_zero, List.take_succ_cons, List.take_zero, List.reverse_cons, List.reverse_nil, List.nil_append, List.cons_append, List.length_cons, List.length_nil, d1, Int.reduceToNat, Nat.reduceAdd, Nat.reduceLeDiff, true_and, and_true, Nat.le_refl, true_implies, forall_const, not_false_eq_true, false_implies, not_true_eq_false, reduceCtorEq, tl_s, tl_n, rf_s, true_or, or_true, m1.c, m2.c, Nat.reduceLT]
    refine Mdl_len_c (by omega) m2 s1.1 wl hi ?_
    refine B_Model_reverse_34 ?_
    simp only [wp_cons, wp_nil, List.getElem?_cons_zero, List.getElem?_cons_succ, List.set_cons_zero, List.set_cons_succ, s_invokevirtual, rc_s, ob_s, List.drop_succ_cons, List.drop_zero, List.take_succ_cons, List.take_zero, List.reverse_cons, List.reverse_nil, List.nil_append, List.cons_append, List.length_cons, List.length_nil, d1, Int.reduceToNat, Nat.reduceAdd, Nat.reduceLeDiff, true_and, and_true, Nat.le_refl, true_implies, forall_const, not_false_eq_true, false_implies, not_true_eq_false, reduceCtorEq, tl_s, tl_n, rf_s, true_or, or_true, m1.c, m2.c, Nat.reduceLT]
    refine Mdl_takes_c (by omega) (c := (sg Ss i).1.length) (g := fun k => pg (sg Ss i).1 ((sg Ss i).1.length - 1 - k)) m2 pts.nil (by show 0 + (sg Ss i).1.length ≤ 64; omega) (fun k hk => ⟨34 + 32 * i + ((sg Ss i).1.length - 1 - k), by omega, by omega, t3 _ (by omega)⟩) (fun h3 r3 A3 c3 m3 e3 e4 p3 => ?_)
    rw [List.nil_append, lf_eq (l := (sg Ss i).1.reverse) (by rw [List.length_reverse]) (fun k hk => (pg_rev _ hk).symm)] at p3
    have s3 : stR (A3 1) (Ss, pn) := by rw [e4 1 (by omega)]; exact s1.1
    refine B_Model_reverse_37 ?_
    simp only [wp_cons, wp_nil, List.getElem?_cons_zero, List.getElem?_cons_succ, List.set_cons_zero, List.set_cons_succ, s_aload_n0, ldA_r, ldA_n, s_iload_n1, ldI_s, s_invokevirtual, rc_s, ob_s, List.drop_succ_cons, List.drop_zero, List.take_succ_cons, List.take_zero, List.reverse_cons, List.reverse_nil, List.nil_append, List.cons_append, List.length_cons, List.length_nil, d1, Int.reduceToNat, Nat.reduceAdd, Nat.reduceLeDiff, true_and, and_true, Nat.le_refl, true_implies, forall_const, not_false_eq_true, false_implies, not_true_eq_false, reduceCtorEq, tl_s, tl_n, rf_s, true_or, or_true, m3.c]
    refine Mdl_clo_c (by omega) m3 s3 wl hi ?_
    refine B_Model_reverse_44 ?_
    simp only [wp_cons, wp_nil, List.getElem?_cons_zero, List.getElem?_cons_succ, List.set_cons_zero, List.set_cons_succ, s_invokevirtual, rc_s, ob_s, List.drop_succ_cons, List.drop_zero, List.take_succ_cons, List.take_zero, List.reverse_cons, List.reverse_nil, List.nil_append, List.cons_append, List.length_cons, List.length_nil, d1, Int.reduceToNat, Nat.reduceAdd, Nat.reduceLeDiff, true_and, and_true, Nat.le_refl, true_implies, forall_const, not_false_eq_true, false_implies, not_true_eq_false, reduceCtorEq, tl_s, tl_n, rf_s, true_or, or_true, m3.c]
    refine Mdl_lays_c (by omega) m3 p3 (by rw [List.length_reverse]; exact wi.2.1) (by omega) (fun h4 A4 c4 m4 e5 e6 e7 e8 e9 => ?_)
    have s4 := s3.lay (fun j hj => (wl.2 j hj).2.1) w.g.2.1.1 hi e6 e7 e8 e9
    have w4 : wfL (Ss.set i ((sg Ss i).1.reverse, (sg Ss i).2)) := wl.set hi (by rw [List.length_reverse]; exact wi.1) (by rw [List.length_reverse]; exact wi.2.1) (fun j hj => by rw [List.length_reverse] at hj; rw [pg_rev _ hj]; exact wi.2.2 _ (by omega))
    have es : sg (Ss.set i ((sg Ss i).1.reverse, (sg Ss i).2)) i = ((sg Ss i).1.reverse, (sg Ss i).2) := by rw [sg_set _ _ _ hi, if_pos rfl]
    refine B_Model_reverse_47 ?_
    simp only [wp_cons, wp_nil, List.getElem?_cons_zero, List.getElem?_cons_succ, List.set_cons_zero, List.set_cons_succ, s_aload_n0, ldA_r, ldA_n, s_iload_n1, ldI_s, s_iconst, s_invokevirtual, rc_s, ob_s, List.drop_succ_cons, List.drop_zero, List.take_succ_cons, List.take_zero, List.reverse_cons, List.reverse_nil, List.nil_append, List.cons_append, List.length_cons, List.length_nil, d1, Int.reduceToNat, Nat.reduceAdd, Nat.reduceLeDiff, true_and, and_true, Nat.le_refl, true_implies, forall_const, not_false_eq_true, false_implies, not_true_eq_false, reduceCtorEq, tl_s, tl_n, rf_s, true_or, or_true, m4.c]
    refine Mdl_pAt_c (by omega) (k := 0) m4 s4 w4 (by rw [List.length_set]; exact hi) (by rw [es, List.length_reverse]; omega) ?_
    rw [es]
    refine B_Model_reverse_53 ?_
    simp only [wp_cons, wp_nil, List.getElem?_cons_zero, List.getElem?_cons_succ, List.set_cons_zero, List.set_cons_succ, s_ireturn, p1_s, rI_i, rI_z, rI_c, z_01, z_11, rt_Model_reverse, true_and, and_true, Nat.le_refl, true_implies, forall_const, not_false_eq_true, false_implies, not_true_eq_false, reduceCtorEq, tl_s, tl_n, rf_s, List.cons_append, List.nil_append, true_or, or_true, m4.c]
    rw [pg_rev _ (by omega), show (sg Ss i).1.length - 1 - 0 = (sg Ss i).1.length - 1 by omega]
    exact hQ h4 (((c1'.tr (chg.set _ (by omega))).tr c3).tr c4) ⟨_, _, m4, s1.s1 s4 (fun n hn => by rw [e5 n (by omega), e4 n (by omega)]) (by rw [e3 3 (by omega), ui_n _ _ (by omega)]) (by rw [e3 5 (by omega), ui_n _ _ (by omega)])⟩
  · rw [if_pos c1] at hQ
    refine B_Model_reverse_5 ?_
    simp only [wp_cons, wp_nil, List.getElem?_cons_zero, List.getElem?_cons_succ, List.set_cons_zero, List.set_cons_succ, s_ifCond_ne, p1_s, true_and, and_true, Nat.le_refl, true_implies, forall_const, not_false_eq_true, false_implies, not_true_eq_false, reduceCtorEq, tl_s, tl_n, rf_s, List.cons_append, List.nil_append, true_or, or_true, hm.c]
    refine B_Model_reverse_8 ?_
    simp only [wp_cons, wp_nil, List.getElem?_cons_zero, List.getElem?_cons_succ, List.set_cons_zero, List.set_cons_succ, s_iconst, s_ireturn, p1_s, rI_i, rI_z, rI_c, z_01, z_11, rt_Model_reverse, true_and, and_true, Nat.le_refl, true_implies, forall_const, not_false_eq_true, false_implies, not_true_eq_false, reduceCtorEq, tl_s, tl_n, rf_s, List.cons_append, List.nil_append, true_or, or_true, hm.c]
    exact hQ h chg.rf hp
theorem Mdl_close_c {d M : Nat} (hd : 9 ≤ d) {W : Wd} {s : Int} {h : g_H} {Q : g_Po} (w : wfW W) (hp : mrep h M W) (hs : i32 s) (hQ : MQ9 M h Q (sp_close W s)) : Call Model_close d 0 0 [.ref M, .int (I s)] h Q := by
  have d1 : 1 ≤ d := by omega
  obtain ⟨⟨Ss, pn⟩, Hs, T, l⟩ := W
  obtain ⟨r, A, hm, ht⟩ := id hp
  have wl := w.g.1.l
  unfold sp_close at hQ
  dsimp only at hQ
  refine Call.intro (by rfl) (Nat.le_of_ble_eq_true rfl) ?_
  refine G.eqL (L := [some (.ref _), some (.int _)]) rfl ?_
  refine B_Model_close_0 ?_
  simp only [wp_cons, wp_nil, List.getElem?_cons_zero, List.getElem?_cons_succ, List.set_cons_zero, List.set_cons_succ, s_aload_n0, ldA_r, ldA_n, s_iload_n1, ldI_s, s_invokevirtual, rc_s, ob_s, List.drop_succ_cons, List.drop_zero, List.take_succ_cons, List.take_zero, List.reverse_cons, List.reverse_nil, List.nil_append, List.cons_append, List.length_cons, List.length_nil, d1, Int.reduceToNat, Nat.reduceAdd, Nat.reduceLeDiff, true_and, and_true, Nat.le_refl, true_implies, forall_const, not_false_eq_true, false_implies, not_true_eq_false, reduceCtorEq, tl_s, tl_n, rf_s, true_or, or_true, hm.c]
  refine Mdl_isS2_c (by omega) hm ht.1 wl hs (fun c1 => ?_) (fun c1 => ?_)
  · rw [if_neg (fun q => q c1)] at hQ
    obtain ⟨i, rfl, hi⟩ := nat_of c1
    replace hi : i < Ss.length := hi
    rw [tn_i] at hQ
    have wi := wl.2 i hi
    have w0 := wl.1
    have b0 := wi.2.2 0 (by omega)
    have b1 := wi.2.2 ((sg Ss i).1.length - 1) (by omega)
    refine B_Model_close_5 ?_
    simp only [wp_cons, wp_nil, List.getElem?_cons_zero, List.getElem?_cons_succ, List.set_cons_zero, List.set_cons_succ, s_ifCond_ne, p1_s, true_and, and_true, Nat.le_refl, true_implies, forall_const, not_false_eq_true, false_implies, not_true_eq_false, reduceCtorEq, tl_s, tl_n, rf_s, List.cons_append, List.nil_append, true_or, or_true, hm.c]
    refine b_ne (by omega) (by omega) (fun cc => ?_) (fun cc => absurd cc (by omega))
    refine B_Model_close_10 ?_
    simp only [wp_cons, wp_nil, List.getElem?_cons_zero, List.getElem?_cons_succ, List.set_cons_zero, List.set_cons_succ, s_aload_n0, ldA_r, ldA_n, s_iload_n1, ldI_s, s_invokevirtual, rc_s, ob_s, List.drop_succ_cons, List.drop_zero, List.take_succ_cons, List.take_zero, List.reverse_cons, List.reverse_nil, List.nil_append, List.cons_append, List.length_cons, List.length_nil, d1, Int.reduceToNat, Nat.reduceAdd, Nat.reduceLeDiff, true_and, and_true, Nat.le_refl, true_implies, forall_const, not_false_eq_true, false_implies, not_true_eq_false, reduceCtorEq, tl_s, tl_n, rf_s, true_or, or_true, hm.c]
    refine Mdl_clo_c (by omega) hm ht.1 wl hi ?_
    cases z : (sg Ss i).2 with
    | true =>
      rw [if_pos (Or.inl z)] at hQ
      rw [show sz true = 1 from rfl]
      refine B_Model_close_15 ?_
      simp only [wp_cons, wp_nil, List.getElem?_cons_zero, List.getElem?_cons_succ, List.set_cons_zero, List.set_cons_succ, s_ifCond_ne, p1_s, true_and, and_true, Nat.le_refl, true_implies, forall_const, not_false_eq_true, false_implies, not_true_eq_false, reduceCtorEq, tl_s, tl_n, rf_s, List.cons_append, List.nil_append, true_or, or_true, hm.c]
      refine b_ne (by omega) (by omega) (fun cc => ?_) (fun cc => absurd cc (by omega))
      refine B_Model_close_48 ?_
      simp only [wp_cons, wp_nil, List.getElem?_cons_zero, List.getElem?_cons_succ, List.set_cons_zero, List.set_cons_succ, s_bipush, s_ireturn, p1_s, rI_i, rI_z, rI_c, z_01, z_11, rt_Model_close, true_and, and_true, Nat.le_refl, true_implies, forall_const, not_false_eq_true, false_implies, not_true_eq_false, reduceCtorEq, tl_s, tl_n, rf_s, List.cons_append, List.nil_append, true_or, or_true, hm.c]
      exact hQ h chg.rf hp
    | false =>
      rw [show sz false = 0 from rfl]
      refine B_Model_close_15 ?_
      simp only [wp_cons, wp_nil, List.getElem?_cons_zero, List.getElem?_cons_succ, List.set_cons_zero, List.set_cons_succ, s_ifCond_ne, p1_s, true_and, and_true, Nat.le_refl, true_implies, forall_const, not_false_eq_true, false_implies, not_true_eq_false, reduceCtorEq, tl_s, tl_n, rf_s, List.cons_append, List.nil_append, true_or, or_true, hm.c]
      refine B_Model_close_18 ?_
      simp only [wp_cons, wp_nil, List.getElem?_cons_zero, List.getElem?_cons_succ, List.set_cons_zero, List.set_cons_succ, s_aload_n0, ldA_r, ldA_n, s_iload_n1, ldI_s, s_invokevirtual, rc_s, ob_s, List.drop_succ_cons, List.drop_zero, List.take_succ_cons, List.take_zero, List.reverse_cons, List.reverse_nil, List.nil_append, List.cons_append, List.length_cons, List.length_nil, d1, Int.reduceToNat, Nat.reduceAdd, Nat.reduceLeDiff, true_and, and_true, Nat.le_refl, true_implies, forall_const, not_false_eq_true, false_implies, not_true_eq_false, reduceCtorEq, tl_s, tl_n, rf_s, true_or, or_true, hm.c]
      refine Mdl_len_c (by omega) hm ht.1 wl hi ?_
      by_cases c2 : (sg Ss i).1.length < 3
      · rw [if_pos (Or.inr (Or.inl c2))] at hQ
        refine B_Model_close_23 ?_
        simp only [wp_cons, wp_nil, List.getElem?_cons_zero, List.getElem?_cons_succ, List.set_cons_zero, List.set_cons_succ, s_iconst, s_if_icmp_lt, p2_s, true_and, and_true, Nat.le_refl, true_implies, forall_const, not_false_eq_true, false_implies, not_true_eq_false, reduceCtorEq, tl_s, tl_n, rf_s, List.cons_append, List.nil_append, true_or, or_true, hm.c]
        refine b_lt (by omega) (by omega) (fun cc => ?_) (fun cc => absurd cc (by omega))
        refine B_Model_close_48 ?_
        simp only [wp_cons, wp_nil, List.getElem?_cons_zero, List.getElem?_cons_succ, List.set_cons_zero, List.set_cons_succ, s_bipush, s_ireturn, p1_s, rI_i, rI_z, rI_c, z_01, z_11, rt_Model_close, true_and, and_true, Nat.le_refl, true_implies, forall_const, not_false_eq_true, false_implies, not_true_eq_false, reduceCtorEq, tl_s, tl_n, rf_s, List.cons_append, List.nil_append, true_or, or_true, hm.c]
        exact hQ h chg.rf hp
      · refine B_Model_close_23 ?_
        simp only [wp_cons, wp_nil, List.getElem?_cons_zero, List.getElem?_cons_succ, List.set_cons_zero, List.set_cons_succ, s_iconst, s_if_icmp_lt, p2_s, true_and, and_true, Nat.le_refl, true_implies, forall_const, not_false_eq_true, false_implies, not_true_eq_false, reduceCtorEq, tl_s, tl_n, rf_s, List.cons_append, List.nil_append, true_or, or_true, hm.c]
        refine b_lt (by omega) (by omega) (fun cc => absurd cc (by omega)) (fun cc => ?_)
        refine B_Model_close_27 ?_
        simp only [wp_cons, wp_nil, List.getElem?_cons_zero, List.getElem?_cons_succ, List.set_cons_zero, List.set_cons_succ, s_aload_n0, ldA_r, ldA_n, s_iload_n1, ldI_s, s_iconst, s_invokevirtual, rc_s, ob_s, List.drop_succ_cons, List.drop_zero, List.take_succ_cons, List.take_zero, List.reverse_cons, List.reverse_nil, List.nil_append, List.cons_append, List.length_cons, List.length_nil, d1, Int.reduceToNat, Nat.reduceAdd, Nat.reduceLeDiff, true_and, and_true, Nat.le_refl, true_implies, forall_const, not_false_eq_true, false_implies, not_true_eq_false, reduceCtorEq, tl_s, tl_n, rf_s, true_or, or_true, hm.c]
        refine Mdl_pAt_c (by omega) (k := 0) hm ht.1 wl hi (show 0 < (sg Ss i).1.length by omega) ?_
        refine B_Model_close_33 ?_
        simp only [wp_cons, wp_nil, List.getElem?_cons_zero, List.getElem?_cons_succ, List.set_cons_zero, List.set_cons_succ, s_aload_n0, ldA_r, ldA_n, s_iload_n1, ldI_s, s_invokevirtual, rc_s, ob_s, List.drop_succ_cons, List.drop_zero, List.take_succ_cons, List.take_zero, List.reverse_cons, List.reverse_nil, List.nil_append, List.cons_append, List.length_cons, List.length_nil, d1, Int.reduceToNat, Nat.reduceAdd, Nat.reduceLeDiff, true_and, and_true, Nat.le_refl, true_implies, forall_const, not_false_eq_true, false_implies, not_true_eq_false, reduceCtorEq, tl_s, tl_n, rf_s, true_or, or_true, hm.c]
        refine Mdl_len_c (by omega) hm ht.1 wl hi ?_
        refine B_Model_close_40 ?_
        simp only [wp_cons, wp_nil, List.getElem?_cons_zero, List.getElem?_cons_succ, List.set_cons_zero, List.set_cons_succ, s_iconst, s_isub, p2_s, I_sub, s_invokevirtual, rc_s, ob_s, List.drop_succ_cons, List.drop_zero, List.take_succ_cons, List.take_zero, List.reverse_cons, List.reverse_nil, List.nil_append, List.cons_append, List.length_cons, List.length_nil, d1, Int.reduceToNat, Nat.reduceAdd, Nat.reduceLeDiff, true_and, and_true, Nat.le_refl, true_implies, forall_const, not_false_eq_true, false_implies, not_true_eq_false, reduceCtorEq, tl_s, tl_n, rf_s, true_or, or_true, hm.c]
        rw [show ((sg Ss i).1.length : Int) - 1 = (((sg Ss i).1.length - 1 : Nat) : Int) by omega]
        refine Mdl_pAt_c (by omega) hm ht.1 wl hi (show (sg Ss i).1.length - 1 < (sg Ss i).1.length by omega) ?_
        by_cases c3 : pg (sg Ss i).1 0 = pg (sg Ss i).1 ((sg Ss i).1.length - 1)
        · rw [if_pos (Or.inr (Or.inr c3))] at hQ
          refine B_Model_close_45 ?_
          simp only [wp_cons, wp_nil, List.getElem?_cons_zero, List.getElem?_cons_succ, List.set_cons_zero, List.set_cons_succ, s_if_icmp_ne, p2_s, true_and, and_true, Nat.le_refl, true_implies, forall_const, not_false_eq_true, false_implies, not_true_eq_false, reduceCtorEq, tl_s, tl_n, rf_s, List.cons_append, List.nil_append, true_or, or_true, hm.c]
          refine b_ne (by omega) (by omega) (fun cc => absurd cc (by omega)) (fun cc => ?_)
          refine B_Model_close_48 ?_
          simp only [wp_cons, wp_nil, List.getElem?_cons_zero, List.getElem?_cons_succ, List.set_cons_zero, List.set_cons_succ, s_bipush, s_ireturn, p1_s, rI_i, rI_z, rI_c, z_01, z_11, rt_Model_close, true_and, and_true, Nat.le_refl, true_implies, forall_const, not_false_eq_true, false_implies, not_true_eq_false, reduceCtorEq, tl_s, tl_n, rf_s, List.cons_append, List.nil_append, true_or, or_true, hm.c]
          exact hQ h chg.rf hp
        · rw [if_neg (fun q => q.elim (fun q => by rw [z] at q; cases q) (fun q => q.elim c2 c3))] at hQ
          refine B_Model_close_45 ?_
          simp only [wp_cons, wp_nil, List.getElem?_cons_zero, List.getElem?_cons_succ, List.set_cons_zero, List.set_cons_succ, s_if_icmp_ne, p2_s, true_and, and_true, Nat.le_refl, true_implies, forall_const, not_false_eq_true, false_implies, not_true_eq_false, reduceCtorEq, tl_s, tl_n, rf_s, List.cons_append, List.nil_append, true_or, or_true, hm.c]
          refine b_ne (by omega) (by omega) (fun cc => ?_) (fun cc => absurd cc (by omega))
          refine B_Model_close_51 ?_
          simp only [wp_cons, wp_nil, List.getElem?_cons_zero, List.getElem?_cons_succ, List.set_cons_zero, List.set_cons_succ, s_aload_n0, ldA_r, ldA_n, s_invokevirtual, rc_s, ob_s, List.drop_succ_cons, List.drop_zero, List.take_succ_cons, List.take_zero, List.reverse_cons, List.reverse_nil, List.nil_append, List.cons_append, List.length_cons, List.length_nil, d1, Int.reduceToNat, Nat.reduceAdd, Nat.reduceLeDiff, true_and, and_true, Nat.le_refl, true_implies, forall_const, not_false_eq_true, false_implies, not_true_eq_false, reduceCtorEq, tl_s, tl_n, rf_s, true_or, or_true, hm.c]
          refine Mdl_rec_c (by omega) hm ht w (fun h1 r1 A1 c1' m1 e1 e2 s1 => ?_)
          obtain ⟨t1, t2, t3⟩ := s1.1.st hi
          refine B_Model_close_55 ?_
          simp only [wp_cons, wp_nil, List.getElem?_cons_zero, List.getElem?_cons_succ, List.set_cons_zero, List.set_cons_succ, s_aload_n0, ldA_r, ldA_n, s_iload_n1, ldI_s, s_iconst, s_invokevirtual, rc_s, ob_s, List.drop_succ_cons, List.drop_zero, List.take_succ_cons, List.take_zero, List.reverse_cons, List.reverse_nil, List.nil_append, List.cons_append, List.length_cons, List.length_nil, d1, Int.reduceToNat, Nat.reduceAdd, Nat.reduceLeDiff, true_and, and_true, Nat.le_refl, true_implies, forall_const, not_false_eq_true, false_implies, not_true_eq_false, reduceCtorEq, tl_s, tl_n, rf_s, true_or, or_true, m1.c]
          refine Mdl_set_c (j := 33 + 32 * i) m1 (by omega) (by omega) (fun h2 c2' m2 => ?_)
          have s2 : stR (ua A1 1 (33 + 32 * i) 1 1) (Ss.set i ((sg Ss i).1, true), pn) := s1.1.lay (fun j hj => (wl.2 j hj).2.1) w.g.2.1.1 hi (fun j hj => by rw [ua_s, ui_n _ _ (by omega)]) (by rw [ua_s, ui_n _ _ (by omega)]; exact t1) (by rw [ua_s, ui_s]; rfl) (fun k hk => by rw [ua_s, ui_n _ _ (by omega)]; exact t3 k hk)
          have es : sg (Ss.set i ((sg Ss i).1, true)) i = ((sg Ss i).1, true) := by rw [sg_set _ _ _ hi, if_pos rfl]
          refine B_Model_close_62 ?_
          simp only [wp_cons, wp_nil, List.getElem?_cons_zero, List.getElem?_cons_succ, List.set_cons_zero, List.set_cons_succ, s_aload_n0, ldA_r, ldA_n, s_iload_n1, ldI_s, s_invokevirtual, rc_s, ob_s, List.drop_succ_cons, List.drop_zero, List.take_succ_cons, List.take_zero, List.reverse_cons, List.reverse_nil, List.nil_append, List.cons_append, List.length_cons, List.length_nil, d1, Int.reduceToNat, Nat.reduceAdd, Nat.reduceLeDiff, true_and, and_true, Nat.le_refl, true_implies, forall_const, not_false_eq_true, false_implies, not_true_eq_false, reduceCtorEq, tl_s, tl_n, rf_s, true_or, or_true, m2.c]
          refine Mdl_len_c (by omega) m2 s2 (wl.set hi wi.1 wi.2.1 wi.2.2) (by rw [List.length_set]; exact hi) ?_
          rw [es]
          refine B_Model_close_67 ?_
          simp only [wp_cons, wp_nil, List.getElem?_cons_zero, List.getElem?_cons_succ, List.set_cons_zero, List.set_cons_succ, s_ireturn, p1_s, rI_i, rI_z, rI_c, z_01, z_11, rt_Model_close, true_and, and_true, Nat.le_refl, true_implies, forall_const, not_false_eq_true, false_implies, not_true_eq_false, reduceCtorEq, tl_s, tl_n, rf_s, List.cons_append, List.nil_append, true_or, or_true, m2.c]
          exact hQ h2 (c1'.tr c2') ⟨_, _, m2, s1.s1 s2 (fun n hn => by rw [ua_n _ _ _ (by omega)]) rfl rfl⟩
  · rw [if_pos c1] at hQ
    refine B_Model_close_5 ?_
    simp only [wp_cons, wp_nil, List.getElem?_cons_zero, List.getElem?_cons_succ, List.set_cons_zero, List.set_cons_succ, s_ifCond_ne, p1_s, true_and, and_true, Nat.le_refl, true_implies, forall_const, not_false_eq_true, false_implies, not_true_eq_false, reduceCtorEq, tl_s, tl_n, rf_s, List.cons_append, List.nil_append, true_or, or_true, hm.c]
    refine B_Model_close_8 ?_
    simp only [wp_cons, wp_nil, List.getElem?_cons_zero, List.getElem?_cons_succ, List.set_cons_zero, List.set_cons_succ, s_iconst, s_ireturn, p1_s, rI_i, rI_z, rI_c, z_01, z_11, rt_Model_close, true_and, and_true, Nat.le_refl, true_implies, forall_const, not_false_eq_true, false_implies, not_true_eq_false, reduceCtorEq, tl_s, tl_n, rf_s, List.cons_append, List.nil_append, true_or, or_true, hm.c]
    exact hQ h chg.rf hp
theorem lf_drop {l : List Int} {k : Nat} (h : k ≤ l.length) : lf (fun j => pg l (k + j)) (l.length - k) = l.drop k := lf_eq (by rw [List.length_drop]) (fun j _ => (pg_drop l j k).symm)
theorem lf_take {l : List Int} {k : Nat} (h : k ≤ l.length) : lf (pg l) k = l.take k := lf_eq (by rw [List.length_take]; omega) (fun j hj => (pg_take l hj).symm)
theorem Mdl_spC_c {d M i j : Nat} (hd : 8 ≤ d) {Ss : List Stk} {pn : Stk} {Hs : List Sta} {T : List Int} {l : Int × Int × Int} {h : g_H} {Q : g_Po} (w : wfW ((Ss, pn), Hs, T, l)) (hp : mrep h M ((Ss, pn), Hs, T, l)) (hi : i < Ss.length) (hj : j < (sg Ss i).1.length)
    (hQ : MQ9 M h Q (if 30 ≤ (sg Ss i).1.length then (-4, ((Ss, pn), Hs, T, l)) else (Ss.length, setD ((Ss, pn), Hs, T, l) (Ss.set i ((sg Ss i).1.drop j ++ (sg Ss i).1.take (j + 1), false))))) : Call Model_splitsClosed d 0 0 [.ref M, .int (I (i : Int)), .int (I (j : Int))] h Q := by
  have d1 : 1 ≤ d := by omega
  obtain ⟨r, A, hm, ht⟩ := id hp
  have wl := w.g.1.l
  have wi := wl.2 i hi
  have w0 := wl.1
  have k0 := ex_ie (x := 0) (i := 0) (n := 352) rfl (by omega)
  refine Call.intro (by rfl) (Nat.le_of_ble_eq_true rfl) ?_
  refine G.eqL (L := [some (.ref _), some (.int _), some (.int _)]) rfl ?_
  refine B_Model_splitsClosed_0 ?_
  simp only [wp_cons, wp_nil, List.getElem?_cons_zero, List.getElem?_cons_succ, List.set_cons_zero, List.set_cons_succ, s_aload_n0, ldA_r, ldA_n, s_iload_n1, ldI_s, s_invokevirtual, rc_s, ob_s, List.drop_succ_cons, List.drop_zero, List.take_succ_cons, List.take_zero, List.reverse_cons, List.reverse_nil, List.nil_append, List.cons_append, List.length_cons, List.length_nil, d1, Int.reduceToNat, Nat.reduceAdd, Nat.reduceLeDiff, true_and, and_true, Nat.le_refl, true_implies, forall_const, not_false_eq_true, false_implies, not_true_eq_false, reduceCtorEq, tl_s, tl_n, rf_s, true_or, or_true, hm.c]
  refine Mdl_len_c (by omega) hm ht.1 wl hi ?_
  by_cases c : 30 ≤ (sg Ss i).1.length
  · rw [if_pos c] at hQ
    refine B_Model_splitsClosed_5 ?_
    simp only [wp_cons, wp_nil, List.getElem?_cons_zero, List.getElem?_cons_succ, List.set_cons_zero, List.set_cons_succ, s_bipush, s_if_icmp_ne, p2_s, true_and, and_true, Nat.le_refl, true_implies, forall_const, not_false_eq_true, false_implies, not_true_eq_false, reduceCtorEq, tl_s, tl_n, rf_s, List.cons_append, List.nil_append, true_or, or_true, hm.c]
    refine b_ne (by omega) (by omega) (fun cc => absurd cc (by omega)) (fun cc => ?_)
    refine B_Model_splitsClosed_10 ?_
    simp only [wp_cons, wp_nil, List.getElem?_cons_zero, List.getElem?_cons_succ, List.set_cons_zero, List.set_cons_succ, s_bipush, s_ireturn, p1_s, rI_i, rI_z, rI_c, z_01, z_11, rt_Model_splitsClosed, true_and, and_true, Nat.le_refl, true_implies, forall_const, not_false_eq_true, false_implies, not_true_eq_false, reduceCtorEq, tl_s, tl_n, rf_s, List.cons_append, List.nil_append, true_or, or_true, hm.c]
    exact hQ h chg.rf hp
  · rw [if_neg c] at hQ
    refine B_Model_splitsClosed_5 ?_
    simp only [wp_cons, wp_nil, List.getElem?_cons_zero, List.getElem?_cons_succ, List.set_cons_zero, List.set_cons_succ, s_bipush, s_if_icmp_ne, p2_s, true_and, and_true, Nat.le_refl, true_implies, forall_const, not_false_eq_true, false_implies, not_true_eq_false, reduceCtorEq, tl_s, tl_n, rf_s, List.cons_append, List.nil_append, true_or, or_true, hm.c]
    refine b_ne (by omega) (by omega) (fun cc => ?_) (fun cc => absurd cc (by omega))
    refine B_Model_splitsClosed_13 ?_
    simp only [wp_cons, wp_nil, List.getElem?_cons_zero, List.getElem?_cons_succ, List.set_cons_zero, List.set_cons_succ, s_aload_n0, ldA_r, ldA_n, s_invokevirtual, rc_s, ob_s, List.drop_succ_cons, List.drop_zero, List.take_succ_cons, List.take_zero, List.reverse_cons, List.reverse_nil, List.nil_append, List.cons_append, List.length_cons, List.length_nil, d1, Int.reduceToNat, Nat.reduceAdd, Nat.reduceLeDiff, true_and, and_true, Nat.le_refl, true_implies, forall_const, not_false_eq_true, false_implies, not_true_eq_false, reduceCtorEq, tl_s, tl_n, rf_s, true_or, or_true, hm.c]
    refine Mdl_rec_c (by omega) hm ht w (fun h1 r1 A1 c1' m1 e1 e2 s1 => ?_)
    have m2 := m1.f12 0
    obtain ⟨t1, t2, t3⟩ := s1.1.st hi
    refine B_Model_splitsClosed_17 ?_
    simp only [wp_cons, wp_nil, List.getElem?_cons_zero, List.getElem?_cons_succ, List.set_cons_zero, List.set_cons_succ, s_aload_n0, ldA_r, ldA_n, s_iconst, s_putfield, pv_i, pv_z, pv_r, pv_f, ob_s, z_01, z_11, List.length_cons, List.length_nil, s_iload_n1, ldI_s, s_iload_n2, s_invokevirtual, rc_s, List.drop_succ_cons, List.drop_zero, List.take_succ_cons, List.take_zero, List.reverse_cons, List.reverse_nil, List.nil_append, List.cons_append, d1, Int.reduceToNat, Nat.reduceAdd, Nat.reduceLeDiff, true_and, and_true, Nat.le_refl, true_implies, forall_const, not_false_eq_true, false_implies, not_true_eq_false, reduceCtorEq, tl_s, tl_n, rf_s, true_or, or_true, m1.c, m2.c, Nat.reduceLT]
    refine Mdl_len_c (by omega) m2 s1.1 wl hi ?_
    refine B_Model_splitsClosed_31 ?_
    simp only [wp_cons, wp_nil, List.getElem?_cons_zero, List.getElem?_cons_succ, List.set_cons_zero, List.set_cons_succ, s_iload_n2, ldI_s, s_isub, p2_s, I_sub, s_invokevirtual, rc_s, ob_s, List.drop_succ_cons, List.drop_zero, List.take_succ_cons, List.take_zero, List.reverse_cons, List.reverse_nil, List.nil_append, List.cons_append, List.length_cons, List.length_nil, d1, Int.reduceToNat, Nat.reduceAdd, Nat.reduceLeDiff, true_and, and_true, Nat.le_refl, true_implies, forall_const, not_false_eq_true, false_implies, not_true_eq_false, reduceCtorEq, tl_s, tl_n, rf_s, true_or, or_true, m1.c, m2.c, Nat.reduceLT]
    rw [show ((sg Ss i).1.length : Int) - j = (((sg Ss i).1.length - j : Nat) : Int) by omega]
    refine Mdl_takes_c (by omega) (g := fun k => pg (sg Ss i).1 (j + k)) m2 pts.nil (by show 0 + ((sg Ss i).1.length - j) ≤ 64; omega) (fun k hk => ⟨34 + 32 * i + (j + k), by omega, by omega, t3 _ (by omega)⟩) (fun h3 r3 A3 c3 m3 e3 e4 p3 => ?_)
    rw [List.nil_append, lf_drop (by omega)] at p3
    have s3 : stR (A3 1) (Ss, pn) := by rw [e4 1 (by omega)]; exact s1.1
    obtain ⟨t1, t2, t3⟩ := s3.st hi
    refine B_Model_splitsClosed_36 ?_
    simp only [wp_cons, wp_nil, List.getElem?_cons_zero, List.getElem?_cons_succ, List.set_cons_zero, List.set_cons_succ, s_aload_n0, ldA_r, ldA_n, s_iload_n1, ldI_s, s_iconst, s_iload_n2, s_iadd, p2_s, I_add, s_invokevirtual, rc_s, ob_s, List.drop_succ_cons, List.drop_zero, List.take_succ_cons, List.take_zero, List.reverse_cons, List.reverse_nil, List.nil_append, List.cons_append, List.length_cons, List.length_nil, d1, Int.reduceToNat, Nat.reduceAdd, Nat.reduceLeDiff, true_and, and_true, Nat.le_refl, true_implies, forall_const, not_false_eq_true, false_implies, not_true_eq_false, reduceCtorEq, tl_s, tl_n, rf_s, true_or, or_true, m3.c]
    refine Mdl_takes_c (by omega) (c := j + 1) (g := pg (sg Ss i).1) m3 p3 (by rw [List.length_drop]; omega) (fun k hk => ⟨34 + 32 * i + k, by omega, by omega, t3 _ (by omega)⟩) (fun h4 r4 A4 c4 m4 e5 e6 p4 => ?_)
    rw [lf_take (by omega)] at p4
    have s4 : stR (A4 1) (Ss, pn) := by rw [e6 1 (by omega)]; exact s3
    refine B_Model_splitsClosed_46 ?_
    simp only [wp_cons, wp_nil, List.getElem?_cons_zero, List.getElem?_cons_succ, List.set_cons_zero, List.set_cons_succ, s_aload_n0, ldA_r, ldA_n, s_iload_n1, ldI_s, s_iconst, s_invokevirtual, rc_s, ob_s, List.drop_succ_cons, List.drop_zero, List.take_succ_cons, List.take_zero, List.reverse_cons, List.reverse_nil, List.nil_append, List.cons_append, List.length_cons, List.length_nil, d1, Int.reduceToNat, Nat.reduceAdd, Nat.reduceLeDiff, true_and, and_true, Nat.le_refl, true_implies, forall_const, not_false_eq_true, false_implies, not_true_eq_false, reduceCtorEq, tl_s, tl_n, rf_s, true_or, or_true, m4.c]
    refine Mdl_lays_c (z := false) (by omega) m4 p4 (by rw [List.length_append, List.length_drop, List.length_take]; omega) (by omega) (fun h5 A5 c5 m5 e7 e8 e9 e10 e11 => ?_)
    have s5 := s4.lay (fun j hj => (wl.2 j hj).2.1) w.g.2.1.1 hi e8 e9 e10 e11
    have a1 : A5 1 0 = Ss.length := by rw [s5.1]; simp
    refine B_Model_splitsClosed_52 ?_
    simp only [wp_cons, wp_nil, List.getElem?_cons_zero, List.getElem?_cons_succ, List.set_cons_zero, List.set_cons_succ, s_aload_n0, ldA_r, ldA_n, s_getfield, pR_s, ob_s, gt_s, s_iconst, s_iaload, iR_s, ia_s, s_ireturn, p1_s, rI_i, rI_z, rI_c, z_01, z_11, rt_Model_splitsClosed, true_and, and_true, Nat.le_refl, true_implies, forall_const, not_false_eq_true, false_implies, not_true_eq_false, reduceCtorEq, tl_s, tl_n, rf_s, List.cons_append, List.nil_append, true_or, or_true, m5.c, m5.g1, a1, k0, ex_ie]
    exact hQ h5 ((((c1'.tr (chg.set _ (by omega))).tr c3).tr c4).tr c5) ⟨_, _, m5, s1.s1 s5 (fun n hn => by rw [e7 n (by omega), e6 n (by omega), e4 n (by omega)]) (by rw [e5 3 (by omega), e3 3 (by omega), ui_n _ _ (by omega)]) (by rw [e5 5 (by omega), e3 5 (by omega), ui_n _ _ (by omega)])⟩
theorem Mdl_spO_c {d M i j : Nat} (hd : 8 ≤ d) {Ss : List Stk} {pn : Stk} {Hs : List Sta} {T : List Int} {l : Int × Int × Int} {h : g_H} {Q : g_Po} (w : wfW ((Ss, pn), Hs, T, l)) (hp : mrep h M ((Ss, pn), Hs, T, l)) (hi : i < Ss.length) (hj : j < (sg Ss i).1.length)
    (hQ : MQ9 M h Q (if (j : Int) = 0 ∨ (j : Int) = (sg Ss i).1.length - 1 then (-3, ((Ss, pn), Hs, T, l)) else if 10 ≤ Ss.length then (-4, ((Ss, pn), Hs, T, l)) else (Ss.length + 1, setD ((Ss, pn), Hs, T, l) (Ss.set i ((sg Ss i).1.take (j + 1), false) ++ [((sg Ss i).1.drop j, false)])))) : Call Model_splitsOpen d 0 0 [.ref M, .int (I (i : Int)), .int (I (j : Int))] h Q := by
  have d1 : 1 ≤ d := by omega
  obtain ⟨r, A, hm, ht⟩ := id hp
  have wl := w.g.1.l
  have wi := wl.2 i hi
  have w0 := wl.1
  have a0 : A 1 0 = Ss.length := ht.1.1
  have k0 := ex_ie (x := 0) (i := 0) (n := 352) rfl (by omega)
  refine Call.intro (by rfl) (Nat.le_of_ble_eq_true rfl) ?_
  refine G.eqL (L := [some (.ref _), some (.int _), some (.int _)]) rfl ?_
  by_cases c1 : (j : Int) = 0
  · rw [if_pos (Or.inl c1)] at hQ
    refine B_Model_splitsOpen_0 ?_
    simp only [wp_cons, wp_nil, List.getElem?_cons_zero, List.getElem?_cons_succ, List.set_cons_zero, List.set_cons_succ, s_iload_n2, ldI_s, s_ifCond_eq, p1_s, true_and, and_true, Nat.le_refl, true_implies, forall_const, not_false_eq_true, false_implies, not_true_eq_false, reduceCtorEq, tl_s, tl_n, rf_s, List.cons_append, List.nil_append, true_or, or_true, hm.c, hm.g1, a0, k0, ex_ie]
    refine b_eq (by omega) (by omega) (fun cc => ?_) (fun cc => absurd cc (by omega))
    refine B_Model_splitsOpen_15 ?_
    simp only [wp_cons, wp_nil, List.getElem?_cons_zero, List.getElem?_cons_succ, List.set_cons_zero, List.set_cons_succ, s_bipush, s_ireturn, p1_s, rI_i, rI_z, rI_c, z_01, z_11, rt_Model_splitsOpen, true_and, and_true, Nat.le_refl, true_implies, forall_const, not_false_eq_true, false_implies, not_true_eq_false, reduceCtorEq, tl_s, tl_n, rf_s, List.cons_append, List.nil_append, true_or, or_true, hm.c, hm.g1, a0, k0, ex_ie]
    exact hQ h chg.rf hp
  refine B_Model_splitsOpen_0 ?_
  simp only [wp_cons, wp_nil, List.getElem?_cons_zero, List.getElem?_cons_succ, List.set_cons_zero, List.set_cons_succ, s_iload_n2, ldI_s, s_ifCond_eq, p1_s, true_and, and_true, Nat.le_refl, true_implies, forall_const, not_false_eq_true, false_implies, not_true_eq_false, reduceCtorEq, tl_s, tl_n, rf_s, List.cons_append, List.nil_append, true_or, or_true, hm.c, hm.g1, a0, k0, ex_ie]
  refine b_eq (by omega) (by omega) (fun cc => absurd cc (by omega)) (fun cc => ?_)
  refine B_Model_splitsOpen_4 ?_
  simp only [wp_cons, wp_nil, List.getElem?_cons_zero, List.getElem?_cons_succ, List.set_cons_zero, List.set_cons_succ, s_iload_n2, ldI_s, s_aload_n0, ldA_r, ldA_n, s_iload_n1, s_invokevirtual, rc_s, ob_s, List.drop_succ_cons, List.drop_zero, List.take_succ_cons, List.take_zero, List.reverse_cons, List.reverse_nil, List.nil_append, List.cons_append, List.length_cons, List.length_nil, d1, Int.reduceToNat, Nat.reduceAdd, Nat.reduceLeDiff, true_and, and_true, Nat.le_refl, true_implies, forall_const, not_false_eq_true, false_implies, not_true_eq_false, reduceCtorEq, tl_s, tl_n, rf_s, true_or, or_true, hm.c, hm.g1, a0, k0, ex_ie]
  refine Mdl_len_c (by omega) hm ht.1 wl hi ?_
  by_cases c2 : (j : Int) = (sg Ss i).1.length - 1
  · rw [if_pos (Or.inr c2)] at hQ
    refine B_Model_splitsOpen_10 ?_
    simp only [wp_cons, wp_nil, List.getElem?_cons_zero, List.getElem?_cons_succ, List.set_cons_zero, List.set_cons_succ, s_iconst, s_isub, p2_s, I_sub, s_if_icmp_ne, true_and, and_true, Nat.le_refl, true_implies, forall_const, not_false_eq_true, false_implies, not_true_eq_false, reduceCtorEq, tl_s, tl_n, rf_s, List.cons_append, List.nil_append, true_or, or_true, hm.c, hm.g1, a0, k0, ex_ie]
    refine b_ne (by omega) (by omega) (fun cc => absurd cc (by omega)) (fun cc => ?_)
    refine B_Model_splitsOpen_15 ?_
    simp only [wp_cons, wp_nil, List.getElem?_cons_zero, List.getElem?_cons_succ, List.set_cons_zero, List.set_cons_succ, s_bipush, s_ireturn, p1_s, rI_i, rI_z, rI_c, z_01, z_11, rt_Model_splitsOpen, true_and, and_true, Nat.le_refl, true_implies, forall_const, not_false_eq_true, false_implies, not_true_eq_false, reduceCtorEq, tl_s, tl_n, rf_s, List.cons_append, List.nil_append, true_or, or_true, hm.c, hm.g1, a0, k0, ex_ie]
    exact hQ h chg.rf hp
  rw [if_neg (fun q => q.elim c1 c2)] at hQ
  by_cases c3 : 10 ≤ Ss.length
  · rw [if_pos c3] at hQ
    refine B_Model_splitsOpen_10 ?_
    simp only [wp_cons, wp_nil, List.getElem?_cons_zero, List.getElem?_cons_succ, List.set_cons_zero, List.set_cons_succ, s_iconst, s_isub, p2_s, I_sub, s_if_icmp_ne, true_and, and_true, Nat.le_refl, true_implies, forall_const, not_false_eq_true, false_implies, not_true_eq_false, reduceCtorEq, tl_s, tl_n, rf_s, List.cons_append, List.nil_append, true_or, or_true, hm.c, hm.g1, a0, k0, ex_ie]
    refine b_ne (by omega) (by omega) (fun cc => ?_) (fun cc => absurd cc (by omega))
    refine B_Model_splitsOpen_18 ?_
    simp only [wp_cons, wp_nil, List.getElem?_cons_zero, List.getElem?_cons_succ, List.set_cons_zero, List.set_cons_succ, s_aload_n0, ldA_r, ldA_n, s_getfield, pR_s, ob_s, gt_s, s_iconst, s_iaload, iR_s, ia_s, s_bipush, s_if_icmp_ne, p2_s, true_and, and_true, Nat.le_refl, true_implies, forall_const, not_false_eq_true, false_implies, not_true_eq_false, reduceCtorEq, tl_s, tl_n, rf_s, List.cons_append, List.nil_append, true_or, or_true, hm.c, hm.g1, a0, k0, ex_ie]
    refine b_ne (by omega) (by omega) (fun cc => absurd cc (by omega)) (fun cc => ?_)
    refine B_Model_splitsOpen_29 ?_
    simp only [wp_cons, wp_nil, List.getElem?_cons_zero, List.getElem?_cons_succ, List.set_cons_zero, List.set_cons_succ, s_bipush, s_ireturn, p1_s, rI_i, rI_z, rI_c, z_01, z_11, rt_Model_splitsOpen, true_and, and_true, Nat.le_refl, true_implies, forall_const, not_false_eq_true, false_implies, not_true_eq_false, reduceCtorEq, tl_s, tl_n, rf_s, List.cons_append, List.nil_append, true_or, or_true, hm.c, hm.g1, a0, k0, ex_ie]
    exact hQ h chg.rf hp
  rw [if_neg c3] at hQ
  refine B_Model_splitsOpen_10 ?_
  simp only [wp_cons, wp_nil, List.getElem?_cons_zero, List.getElem?_cons_succ, List.set_cons_zero, List.set_cons_succ, s_iconst, s_isub, p2_s, I_sub, s_if_icmp_ne, true_and, and_true, Nat.le_refl, true_implies, forall_const, not_false_eq_true, false_implies, not_true_eq_false, reduceCtorEq, tl_s, tl_n, rf_s, List.cons_append, List.nil_append, true_or, or_true, hm.c, hm.g1, a0, k0, ex_ie]
  refine b_ne (by omega) (by omega) (fun cc => ?_) (fun cc => absurd cc (by omega))
  refine B_Model_splitsOpen_18 ?_
  simp only [wp_cons, wp_nil, List.getElem?_cons_zero, List.getElem?_cons_succ, List.set_cons_zero, List.set_cons_succ, s_aload_n0, ldA_r, ldA_n, s_getfield, pR_s, ob_s, gt_s, s_iconst, s_iaload, iR_s, ia_s, s_bipush, s_if_icmp_ne, p2_s, true_and, and_true, Nat.le_refl, true_implies, forall_const, not_false_eq_true, false_implies, not_true_eq_false, reduceCtorEq, tl_s, tl_n, rf_s, List.cons_append, List.nil_append, true_or, or_true, hm.c, hm.g1, a0, k0, ex_ie]
  refine b_ne (by omega) (by omega) (fun cc => ?_) (fun cc => absurd cc (by omega))
  refine B_Model_splitsOpen_32 ?_
  simp only [wp_cons, wp_nil, List.getElem?_cons_zero, List.getElem?_cons_succ, List.set_cons_zero, List.set_cons_succ, s_aload_n0, ldA_r, ldA_n, s_invokevirtual, rc_s, ob_s, List.drop_succ_cons, List.drop_zero, List.take_succ_cons, List.take_zero, List.reverse_cons, List.reverse_nil, List.nil_append, List.cons_append, List.length_cons, List.length_nil, d1, Int.reduceToNat, Nat.reduceAdd, Nat.reduceLeDiff, true_and, and_true, Nat.le_refl, true_implies, forall_const, not_false_eq_true, false_implies, not_true_eq_false, reduceCtorEq, tl_s, tl_n, rf_s, true_or, or_true, hm.c, hm.g1, a0, k0, ex_ie]
  refine Mdl_rec_c (by omega) hm ht w (fun h1 r1 A1 c1' m1 e1 e2 s1 => ?_)
  have m2 := m1.f12 0
  obtain ⟨t1, t2, t3⟩ := s1.1.st hi
  refine B_Model_splitsOpen_36 ?_
  simp only [wp_cons, wp_nil, List.getElem?_cons_zero, List.getElem?_cons_succ, List.set_cons_zero, List.set_cons_succ, s_aload_n0, ldA_r, ldA_n, s_iconst, s_putfield, pv_i, pv_z, pv_r, pv_f, ob_s, z_01, z_11, List.length_cons, List.length_nil, s_iload_n1, ldI_s, s_iload_n2, s_invokevirtual, rc_s, List.drop_succ_cons, List.drop_zero, List.take_succ_cons, List.take_zero, List.reverse_cons, List.reverse_nil, List.nil_append, List.cons_append, d1, Int.reduceToNat, Nat.reduceAdd, Nat.reduceLeDiff, true_and, and_true, Nat.le_refl, true_implies, forall_const, not_false_eq_true, false_implies, not_true_eq_false, reduceCtorEq, tl_s, tl_n, rf_s, true_or, or_true, m1.c, m2.c, Nat.reduceLT]
  refine Mdl_len_c (by omega) m2 s1.1 wl hi ?_
  refine B_Model_splitsOpen_50 ?_
  simp only [wp_cons, wp_nil, List.getElem?_cons_zero, List.getElem?_cons_succ, List.set_cons_zero, List.set_cons_succ, s_iload_n2, ldI_s, s_isub, p2_s, I_sub, s_invokevirtual, rc_s, ob_s, List.drop_succ_cons, List.drop_zero, List.take_succ_cons, List.take_zero, List.reverse_cons, List.reverse_nil, List.nil_append, List.cons_append, List.length_cons, List.length_nil, d1, Int.reduceToNat, Nat.reduceAdd, Nat.reduceLeDiff, true_and, and_true, Nat.le_refl, true_implies, forall_const, not_false_eq_true, false_implies, not_true_eq_false, reduceCtorEq, tl_s, tl_n, rf_s, true_or, or_true, m1.c, m2.c, Nat.reduceLT]
  rw [show ((sg Ss i).1.length : Int) - j = (((sg Ss i).1.length - j : Nat) : Int) by omega]
  refine Mdl_takes_c (by omega) (g := fun k => pg (sg Ss i).1 (j + k)) m2 pts.nil (by show 0 + ((sg Ss i).1.length - j) ≤ 64; omega) (fun k hk => ⟨34 + 32 * i + (j + k), by omega, by omega, t3 _ (by omega)⟩) (fun h3 r3 A3 c3 m3 e3 e4 p3 => ?_)
  rw [List.nil_append, lf_drop (by omega)] at p3
  have s3 : stR (A3 1) (Ss, pn) := by rw [e4 1 (by omega)]; exact s1.1
  refine B_Model_splitsOpen_55 ?_
  simp only [wp_cons, wp_nil, List.getElem?_cons_zero, List.getElem?_cons_succ, List.set_cons_zero, List.set_cons_succ, s_aload_n0, ldA_r, ldA_n, s_iconst, s_invokevirtual, rc_s, ob_s, List.drop_succ_cons, List.drop_zero, List.take_succ_cons, List.take_zero, List.reverse_cons, List.reverse_nil, List.nil_append, List.cons_append, List.length_cons, List.length_nil, d1, Int.reduceToNat, Nat.reduceAdd, Nat.reduceLeDiff, true_and, and_true, Nat.le_refl, true_implies, forall_const, not_false_eq_true, false_implies, not_true_eq_false, reduceCtorEq, tl_s, tl_n, rf_s, true_or, or_true, m3.c]
  refine Mdl_adds_c (z := false) (by omega) m3 p3 (by rw [List.length_drop]; omega) s3 (fun j hj => (wl.2 j hj).2.1) w.g.2.1.1 (by omega) (fun h4 A4 c4 m4 e5 s4 => ?_)
  have m5 := m4.f12 0
  have hi5 : i < (Ss ++ [((sg Ss i).1.drop j, false)]).length := by rw [List.length_append]; omega
  obtain ⟨t1, t2, t3⟩ := s4.st hi5
  rw [sg_app_l _ _ hi] at t1 t2 t3
  refine B_Model_splitsOpen_60 ?_
  simp only [wp_cons, wp_nil, List.getElem?_cons_zero, List.getElem?_cons_succ, List.set_cons_zero, List.set_cons_succ, s_pop, p1v_i, p1v_r, s_aload_n0, ldA_r, ldA_n, s_iconst, s_putfield, pv_i, pv_z, pv_r, pv_f, ob_s, z_01, z_11, List.length_cons, List.length_nil, s_iload_n1, ldI_s, s_iload_n2, s_iadd, p2_s, I_add, s_invokevirtual, rc_s, List.drop_succ_cons, List.drop_zero, List.take_succ_cons, List.take_zero, List.reverse_cons, List.reverse_nil, List.nil_append, List.cons_append, d1, Int.reduceToNat, Nat.reduceAdd, Nat.reduceLeDiff, true_and, and_true, Nat.le_refl, true_implies, forall_const, not_false_eq_true, false_implies, not_true_eq_false, reduceCtorEq, tl_s, tl_n, rf_s, true_or, or_true, m4.c, m5.c, Nat.reduceLT]
  refine Mdl_takes_c (by omega) (c := j + 1) (g := pg (sg Ss i).1) m5 pts.nil (by show 0 + (j + 1) ≤ 64; omega) (fun k hk => ⟨34 + 32 * i + k, by omega, by omega, t3 _ (by omega)⟩) (fun h6 r6 A6 c6 m6 e7 e8 p6 => ?_)
  rw [List.nil_append, lf_take (by omega)] at p6
  have s6 : stR (A6 1) (Ss ++ [((sg Ss i).1.drop j, false)], pn) := by rw [e8 1 (by omega)]; exact s4
  refine B_Model_splitsOpen_76 ?_
  simp only [wp_cons, wp_nil, List.getElem?_cons_zero, List.getElem?_cons_succ, List.set_cons_zero, List.set_cons_succ, s_aload_n0, ldA_r, ldA_n, s_iload_n1, ldI_s, s_iconst, s_invokevirtual, rc_s, ob_s, List.drop_succ_cons, List.drop_zero, List.take_succ_cons, List.take_zero, List.reverse_cons, List.reverse_nil, List.nil_append, List.cons_append, List.length_cons, List.length_nil, d1, Int.reduceToNat, Nat.reduceAdd, Nat.reduceLeDiff, true_and, and_true, Nat.le_refl, true_implies, forall_const, not_false_eq_true, false_implies, not_true_eq_false, reduceCtorEq, tl_s, tl_n, rf_s, true_or, or_true, m6.c]
  refine Mdl_lays_c (z := false) (by omega) m6 p6 (by rw [List.length_take]; omega) (by omega) (fun h7 A7 c7 m7 e9 e10 e11 e12 e13 => ?_)
  have s7 := s6.lay (fun k hk => by
    rw [List.length_append] at hk
    by_cases q : k < Ss.length
    · rw [sg_app_l _ _ q]; exact (wl.2 k q).2.1
    · rw [sg_app_r _ _ (by omega), show k - Ss.length = 0 by simp at hk; omega]
      show ((sg Ss i).1.drop j).length ≤ 30
      rw [List.length_drop]; omega) w.g.2.1.1 hi5 e10 e11 e12 e13
  rw [set_app hi] at s7
  have a1 : A7 1 0 = (Ss.length : Int) + 1 := by rw [s7.1]; simp
  refine B_Model_splitsOpen_82 ?_
  simp only [wp_cons, wp_nil, List.getElem?_cons_zero, List.getElem?_cons_succ, List.set_cons_zero, List.set_cons_succ, s_aload_n0, ldA_r, ldA_n, s_getfield, pR_s, ob_s, gt_s, s_iconst, s_iaload, iR_s, ia_s, s_ireturn, p1_s, rI_i, rI_z, rI_c, z_01, z_11, rt_Model_splitsOpen, true_and, and_true, Nat.le_refl, true_implies, forall_const, not_false_eq_true, false_implies, not_true_eq_false, reduceCtorEq, tl_s, tl_n, rf_s, List.cons_append, List.nil_append, true_or, or_true, m7.c, m7.g1, a1, k0, ex_ie]
  exact hQ h7 ((((((c1'.tr (chg.set _ (by omega))).tr c3).tr c4).tr (chg.set _ (by omega))).tr c6).tr c7) ⟨_, _, m7, s1.s1 s7 (fun n hn => by rw [e9 n (by omega), e8 n (by omega), e5 n (by omega), e4 n (by omega)]) (by rw [e7 3 (by omega), ui_n _ _ (by omega), e3 3 (by omega), ui_n _ _ (by omega)]) (by rw [e7 5 (by omega), ui_n _ _ (by omega), e3 5 (by omega), ui_n _ _ (by omega)])⟩
theorem Mdl_split_c {d M : Nat} (hd : 9 ≤ d) {W : Wd} {s k : Int} {h : g_H} {Q : g_Po} (w : wfW W) (hp : mrep h M W) (hs : i32 s) (hk : i32 k) (hQ : MQ9 M h Q (sp_split W s k)) : Call Model_split d 0 0 [.ref M, .int (I s), .int (I k)] h Q := by
  have d1 : 1 ≤ d := by omega
  obtain ⟨⟨Ss, pn⟩, Hs, T, l⟩ := W
  obtain ⟨r, A, hm, ht⟩ := id hp
  have wl := w.g.1.l
  unfold sp_split at hQ
  dsimp only at hQ
  refine Call.intro (by rfl) (Nat.le_of_ble_eq_true rfl) ?_
  refine G.eqL (L := [some (.ref _), some (.int _), some (.int _)]) rfl ?_
  refine B_Model_split_0 ?_
  simp only [wp_cons, wp_nil, List.getElem?_cons_zero, List.getElem?_cons_succ, List.set_cons_zero, List.set_cons_succ, s_aload_n0, ldA_r, ldA_n, s_iload_n1, ldI_s, s_invokevirtual, rc_s, ob_s, List.drop_succ_cons, List.drop_zero, List.take_succ_cons, List.take_zero, List.reverse_cons, List.reverse_nil, List.nil_append, List.cons_append, List.length_cons, List.length_nil, d1, Int.reduceToNat, Nat.reduceAdd, Nat.reduceLeDiff, true_and, and_true, Nat.le_refl, true_implies, forall_const, not_false_eq_true, false_implies, not_true_eq_false, reduceCtorEq, tl_s, tl_n, rf_s, true_or, or_true, hm.c]
  refine Mdl_isS2_c (by omega) hm ht.1 wl hs (fun c1 => ?_) (fun c1 => ?_)
  · obtain ⟨i, rfl, hi⟩ := nat_of c1
    replace hi : i < Ss.length := hi
    rw [tn_i] at hQ
    have wi := wl.2 i hi
    refine B_Model_split_5 ?_
    simp only [wp_cons, wp_nil, List.getElem?_cons_zero, List.getElem?_cons_succ, List.set_cons_zero, List.set_cons_succ, s_ifCond_eq, p1_s, true_and, and_true, Nat.le_refl, true_implies, forall_const, not_false_eq_true, false_implies, not_true_eq_false, reduceCtorEq, tl_s, tl_n, rf_s, List.cons_append, List.nil_append, true_or, or_true, hm.c]
    refine b_eq (by omega) (by omega) (fun cc => absurd cc (by omega)) (fun cc => ?_)
    refine B_Model_split_8 ?_
    simp only [wp_cons, wp_nil, List.getElem?_cons_zero, List.getElem?_cons_succ, List.set_cons_zero, List.set_cons_succ, s_iload_n2, ldI_s, s_iconst, s_aload_n0, ldA_r, ldA_n, s_iload_n1, s_invokevirtual, rc_s, ob_s, List.drop_succ_cons, List.drop_zero, List.take_succ_cons, List.take_zero, List.reverse_cons, List.reverse_nil, List.nil_append, List.cons_append, List.length_cons, List.length_nil, d1, Int.reduceToNat, Nat.reduceAdd, Nat.reduceLeDiff, true_and, and_true, Nat.le_refl, true_implies, forall_const, not_false_eq_true, false_implies, not_true_eq_false, reduceCtorEq, tl_s, tl_n, rf_s, true_or, or_true, hm.c]
    refine Mdl_len_c (by omega) hm ht.1 wl hi ?_
    refine B_Model_split_15 ?_
    simp only [wp_cons, wp_nil, List.getElem?_cons_zero, List.getElem?_cons_succ, List.set_cons_zero, List.set_cons_succ, s_iconst, s_isub, p2_s, I_sub, s_invokestatic, rc_s, ob_s, List.drop_succ_cons, List.drop_zero, List.take_succ_cons, List.take_zero, List.reverse_cons, List.reverse_nil, List.nil_append, List.cons_append, List.length_cons, List.length_nil, Nat.reduceEqDiff, reduceIte, p1_s, l1_s, d1, Int.reduceToNat, Nat.reduceAdd, Nat.reduceLeDiff, true_and, and_true, Nat.le_refl, true_implies, forall_const, not_false_eq_true, false_implies, not_true_eq_false, reduceCtorEq, tl_s, tl_n, rf_s, true_or, or_true, hm.c]
    refine Mdl_within_c hk (by omega) (by omega) (fun c2 => ?_) (fun c2 => ?_)
    · rw [if_neg (fun q => q ⟨c1, c2.1, by omega⟩)] at hQ
      obtain ⟨j, rfl, hj⟩ := nat_of (n := (sg Ss i).1.length) (show 0 ≤ k ∧ k < (((sg Ss i).1.length : Nat) : Int) by omega)
      rw [tn_i] at hQ
      refine B_Model_split_20 ?_
      simp only [wp_cons, wp_nil, List.getElem?_cons_zero, List.getElem?_cons_succ, List.set_cons_zero, List.set_cons_succ, s_ifCond_ne, p1_s, true_and, and_true, Nat.le_refl, true_implies, forall_const, not_false_eq_true, false_implies, not_true_eq_false, reduceCtorEq, tl_s, tl_n, rf_s, List.cons_append, List.nil_append, true_or, or_true, hm.c]
      refine b_ne (by omega) (by omega) (fun cc => ?_) (fun cc => absurd cc (by omega))
      refine B_Model_split_25 ?_
      simp only [wp_cons, wp_nil, List.getElem?_cons_zero, List.getElem?_cons_succ, List.set_cons_zero, List.set_cons_succ, s_aload_n0, ldA_r, ldA_n, s_iload_n1, ldI_s, s_invokevirtual, rc_s, ob_s, List.drop_succ_cons, List.drop_zero, List.take_succ_cons, List.take_zero, List.reverse_cons, List.reverse_nil, List.nil_append, List.cons_append, List.length_cons, List.length_nil, d1, Int.reduceToNat, Nat.reduceAdd, Nat.reduceLeDiff, true_and, and_true, Nat.le_refl, true_implies, forall_const, not_false_eq_true, false_implies, not_true_eq_false, reduceCtorEq, tl_s, tl_n, rf_s, true_or, or_true, hm.c]
      refine Mdl_clo_c (by omega) hm ht.1 wl hi ?_
      cases z : (sg Ss i).2 with
      | true =>
        rw [if_pos z] at hQ
        rw [show sz true = 1 from rfl]
        refine B_Model_split_30 ?_
        simp only [wp_cons, wp_nil, List.getElem?_cons_zero, List.getElem?_cons_succ, List.set_cons_zero, List.set_cons_succ, s_ifCond_eq, p1_s, true_and, and_true, Nat.le_refl, true_implies, forall_const, not_false_eq_true, false_implies, not_true_eq_false, reduceCtorEq, tl_s, tl_n, rf_s, List.cons_append, List.nil_append, true_or, or_true, hm.c]
        refine b_eq (by omega) (by omega) (fun cc => absurd cc (by omega)) (fun cc => ?_)
        refine B_Model_split_33 ?_
        simp only [wp_cons, wp_nil, List.getElem?_cons_zero, List.getElem?_cons_succ, List.set_cons_zero, List.set_cons_succ, s_aload_n0, ldA_r, ldA_n, s_iload_n1, ldI_s, s_iload_n2, s_invokevirtual, rc_s, ob_s, List.drop_succ_cons, List.drop_zero, List.take_succ_cons, List.take_zero, List.reverse_cons, List.reverse_nil, List.nil_append, List.cons_append, List.length_cons, List.length_nil, d1, Int.reduceToNat, Nat.reduceAdd, Nat.reduceLeDiff, true_and, and_true, Nat.le_refl, true_implies, forall_const, not_false_eq_true, false_implies, not_true_eq_false, reduceCtorEq, tl_s, tl_n, rf_s, true_or, or_true, hm.c]
        refine Mdl_spC_c (by omega) w hp hi hj (fun h' c' r' => ?_)
        refine B_Model_split_39 ?_
        simp only [wp_cons, wp_nil, List.getElem?_cons_zero, List.getElem?_cons_succ, List.set_cons_zero, List.set_cons_succ, s_goto, true_and, and_true, Nat.le_refl, true_implies, forall_const, not_false_eq_true, false_implies, not_true_eq_false, reduceCtorEq, tl_s, tl_n, rf_s, List.cons_append, List.nil_append, true_or, or_true, hm.c]
        refine B_Model_split_48 ?_
        simp only [wp_cons, wp_nil, List.getElem?_cons_zero, List.getElem?_cons_succ, List.set_cons_zero, List.set_cons_succ, s_ireturn, p1_s, rI_i, rI_z, rI_c, z_01, z_11, rt_Model_split, true_and, and_true, Nat.le_refl, true_implies, forall_const, not_false_eq_true, false_implies, not_true_eq_false, reduceCtorEq, tl_s, tl_n, rf_s, List.cons_append, List.nil_append, true_or, or_true, hm.c]
        exact hQ h' c' r'
      | false =>
        rw [if_neg (by rw [z]; decide)] at hQ
        rw [show sz false = 0 from rfl]
        refine B_Model_split_30 ?_
        simp only [wp_cons, wp_nil, List.getElem?_cons_zero, List.getElem?_cons_succ, List.set_cons_zero, List.set_cons_succ, s_ifCond_eq, p1_s, true_and, and_true, Nat.le_refl, true_implies, forall_const, not_false_eq_true, false_implies, not_true_eq_false, reduceCtorEq, tl_s, tl_n, rf_s, List.cons_append, List.nil_append, true_or, or_true, hm.c]
        refine B_Model_split_42 ?_
        simp only [wp_cons, wp_nil, List.getElem?_cons_zero, List.getElem?_cons_succ, List.set_cons_zero, List.set_cons_succ, s_aload_n0, ldA_r, ldA_n, s_iload_n1, ldI_s, s_iload_n2, s_invokevirtual, rc_s, ob_s, List.drop_succ_cons, List.drop_zero, List.take_succ_cons, List.take_zero, List.reverse_cons, List.reverse_nil, List.nil_append, List.cons_append, List.length_cons, List.length_nil, d1, Int.reduceToNat, Nat.reduceAdd, Nat.reduceLeDiff, true_and, and_true, Nat.le_refl, true_implies, forall_const, not_false_eq_true, false_implies, not_true_eq_false, reduceCtorEq, tl_s, tl_n, rf_s, true_or, or_true, hm.c]
        refine Mdl_spO_c (by omega) w hp hi hj (fun h' c' r' => ?_)
        refine B_Model_split_48 ?_
        simp only [wp_cons, wp_nil, List.getElem?_cons_zero, List.getElem?_cons_succ, List.set_cons_zero, List.set_cons_succ, s_ireturn, p1_s, rI_i, rI_z, rI_c, z_01, z_11, rt_Model_split, true_and, and_true, Nat.le_refl, true_implies, forall_const, not_false_eq_true, false_implies, not_true_eq_false, reduceCtorEq, tl_s, tl_n, rf_s, List.cons_append, List.nil_append, true_or, or_true, hm.c]
        exact hQ h' c' r'
    · rw [if_pos (fun q => c2 ⟨q.2.1, by have := q.2.2; omega⟩)] at hQ
      refine B_Model_split_20 ?_
      simp only [wp_cons, wp_nil, List.getElem?_cons_zero, List.getElem?_cons_succ, List.set_cons_zero, List.set_cons_succ, s_ifCond_ne, p1_s, true_and, and_true, Nat.le_refl, true_implies, forall_const, not_false_eq_true, false_implies, not_true_eq_false, reduceCtorEq, tl_s, tl_n, rf_s, List.cons_append, List.nil_append, true_or, or_true, hm.c]
      refine B_Model_split_23 ?_
      simp only [wp_cons, wp_nil, List.getElem?_cons_zero, List.getElem?_cons_succ, List.set_cons_zero, List.set_cons_succ, s_iconst, s_ireturn, p1_s, rI_i, rI_z, rI_c, z_01, z_11, rt_Model_split, true_and, and_true, Nat.le_refl, true_implies, forall_const, not_false_eq_true, false_implies, not_true_eq_false, reduceCtorEq, tl_s, tl_n, rf_s, List.cons_append, List.nil_append, true_or, or_true, hm.c]
      exact hQ h chg.rf hp
  · rw [if_pos (fun q => c1 q.1)] at hQ
    refine B_Model_split_5 ?_
    simp only [wp_cons, wp_nil, List.getElem?_cons_zero, List.getElem?_cons_succ, List.set_cons_zero, List.set_cons_succ, s_ifCond_eq, p1_s, true_and, and_true, Nat.le_refl, true_implies, forall_const, not_false_eq_true, false_implies, not_true_eq_false, reduceCtorEq, tl_s, tl_n, rf_s, List.cons_append, List.nil_append, true_or, or_true, hm.c]
    refine B_Model_split_23 ?_
    simp only [wp_cons, wp_nil, List.getElem?_cons_zero, List.getElem?_cons_succ, List.set_cons_zero, List.set_cons_succ, s_iconst, s_ireturn, p1_s, rI_i, rI_z, rI_c, z_01, z_11, rt_Model_split, true_and, and_true, Nat.le_refl, true_implies, forall_const, not_false_eq_true, false_implies, not_true_eq_false, reduceCtorEq, tl_s, tl_n, rf_s, List.cons_append, List.nil_append, true_or, or_true, hm.c]
    exact hQ h chg.rf hp
