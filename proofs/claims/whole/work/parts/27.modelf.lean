/-! ===== the reference: asking ===== -/
/-! blocks of Model_of -/
theorem ml_Model_of : (g_m Model_of).2.2.1 = 3 := rfl
theorem rt_Model_of : (g_m Model_of).2.2.2.1 = (some .int) := rfl
theorem B_Model_of_0 {d mc ms cs ss : Nat} {L : List (Option Value)} {st : List Value} {h : g_H} {Q : g_Po} (hw : g_wp Model_of d mc ms Q 5 [(0, 1, 0, 0, 0, 0, .aload_n 0), (1, 1, 0, 0, 0, 0, .iload_n 1), (2, 3, 116, 7, 4020, 1, .invokevirtual 129)] cs ss L st h) : G Model_of d mc ms cs ss 0 L st h Q := G.run (by decide +kernel) hw
theorem B_Model_of_5 {d mc ms cs ss : Nat} {L : List (Option Value)} {st : List Value} {h : g_H} {Q : g_Po} (hw : g_wp Model_of d mc ms Q 8 [(5, 3, 10, 0, 0, 0, .ifCond .ne 5)] cs ss L st h) : G Model_of d mc ms cs ss 5 L st h Q := G.run (by decide +kernel) hw
theorem B_Model_of_8 {d mc ms cs ss : Nat} {L : List (Option Value)} {st : List Value} {h : g_H} {Q : g_Po} (hw : g_wp Model_of d mc ms Q 10 [(8, 1, 0, 0, 0, (-1), .iconst (-1)), (9, 1, 0, 0, 0, 0, .ireturn)] cs ss L st h) : G Model_of d mc ms cs ss 8 L st h Q := G.run (by decide +kernel) hw
theorem B_Model_of_10 {d mc ms cs ss : Nat} {L : List (Option Value)} {st : List Value} {h : g_H} {Q : g_Po} (hw : g_wp Model_of d mc ms Q 17 [(10, 1, 0, 0, 0, 0, .iload_n 2), (11, 1, 0, 0, 0, 0, .iconst 0), (12, 2, 0, 0, 0, 9, .bipush 9), (14, 3, 108, 0, 3219, 3, .invokestatic 45)] cs ss L st h) : G Model_of d mc ms cs ss 10 L st h Q := G.run (by decide +kernel) hw
theorem B_Model_of_17 {d mc ms cs ss : Nat} {L : List (Option Value)} {st : List Value} {h : g_H} {Q : g_Po} (hw : g_wp Model_of d mc ms Q 20 [(17, 3, 29, 0, 0, 0, .ifCond .eq 12)] cs ss L st h) : G Model_of d mc ms cs ss 17 L st h Q := G.run (by decide +kernel) hw
theorem B_Model_of_20 {d mc ms cs ss : Nat} {L : List (Option Value)} {st : List Value} {h : g_H} {Q : g_Po} (hw : g_wp Model_of d mc ms Q 26 [(20, 1, 0, 0, 0, 0, .aload_n 0), (21, 1, 0, 0, 0, 0, .iload_n 1), (22, 1, 0, 0, 0, 0, .iload_n 2), (23, 3, 177, 7, 4195, 2, .invokevirtual 229)] cs ss L st h) : G Model_of d mc ms cs ss 20 L st h Q := G.run (by decide +kernel) hw
theorem B_Model_of_26 {d mc ms cs ss : Nat} {L : List (Option Value)} {st : List Value} {h : g_H} {Q : g_Po} (hw : g_wp Model_of d mc ms Q 29 [(26, 3, 31, 0, 0, 0, .goto 5)] cs ss L st h) : G Model_of d mc ms cs ss 26 L st h Q := G.run (by decide +kernel) hw
theorem B_Model_of_29 {d mc ms cs ss : Nat} {L : List (Option Value)} {st : List Value} {h : g_H} {Q : g_Po} (hw : g_wp Model_of d mc ms Q 31 [(29, 2, 0, 0, 0, (-2), .bipush (-2))] cs ss L st h) : G Model_of d mc ms cs ss 29 L st h Q := G.run (by decide +kernel) hw
theorem B_Model_of_31 {d mc ms cs ss : Nat} {L : List (Option Value)} {st : List Value} {h : g_H} {Q : g_Po} (hw : g_wp Model_of d mc ms Q 32 [(31, 1, 0, 0, 0, 0, .ireturn)] cs ss L st h) : G Model_of d mc ms cs ss 31 L st h Q := G.run (by decide +kernel) hw
/-! blocks of Model_point -/
theorem ml_Model_point : (g_m Model_point).2.2.1 = 3 := rfl
theorem rt_Model_point : (g_m Model_point).2.2.2.1 = (some .int) := rfl
theorem B_Model_point_0 {d mc ms cs ss : Nat} {L : List (Option Value)} {st : List Value} {h : g_H} {Q : g_Po} (hw : g_wp Model_point d mc ms Q 5 [(0, 1, 0, 0, 0, 0, .aload_n 0), (1, 1, 0, 0, 0, 0, .iload_n 1), (2, 3, 116, 7, 4020, 1, .invokevirtual 129)] cs ss L st h) : G Model_point d mc ms cs ss 0 L st h Q := G.run (by decide +kernel) hw
theorem B_Model_point_5 {d mc ms cs ss : Nat} {L : List (Option Value)} {st : List Value} {h : g_H} {Q : g_Po} (hw : g_wp Model_point d mc ms Q 8 [(5, 3, 32, 0, 0, 0, .ifCond .eq 27)] cs ss L st h) : G Model_point d mc ms cs ss 5 L st h Q := G.run (by decide +kernel) hw
theorem B_Model_point_8 {d mc ms cs ss : Nat} {L : List (Option Value)} {st : List Value} {h : g_H} {Q : g_Po} (hw : g_wp Model_point d mc ms Q 15 [(8, 1, 0, 0, 0, 0, .iload_n 2), (9, 1, 0, 0, 0, 0, .iconst 0), (10, 1, 0, 0, 0, 0, .aload_n 0), (11, 1, 0, 0, 0, 0, .iload_n 1), (12, 3, 119, 7, 4047, 1, .invokevirtual 57)] cs ss L st h) : G Model_point d mc ms cs ss 8 L st h Q := G.run (by decide +kernel) hw
theorem B_Model_point_15 {d mc ms cs ss : Nat} {L : List (Option Value)} {st : List Value} {h : g_H} {Q : g_Po} (hw : g_wp Model_point d mc ms Q 20 [(15, 1, 0, 0, 0, 1, .iconst 1), (16, 1, 0, 0, 0, 0, .isub), (17, 3, 108, 0, 3219, 3, .invokestatic 45)] cs ss L st h) : G Model_point d mc ms cs ss 15 L st h Q := G.run (by decide +kernel) hw
theorem B_Model_point_20 {d mc ms cs ss : Nat} {L : List (Option Value)} {st : List Value} {h : g_H} {Q : g_Po} (hw : g_wp Model_point d mc ms Q 23 [(20, 3, 32, 0, 0, 0, .ifCond .eq 12)] cs ss L st h) : G Model_point d mc ms cs ss 20 L st h Q := G.run (by decide +kernel) hw
theorem B_Model_point_23 {d mc ms cs ss : Nat} {L : List (Option Value)} {st : List Value} {h : g_H} {Q : g_Po} (hw : g_wp Model_point d mc ms Q 29 [(23, 1, 0, 0, 0, 0, .aload_n 0), (24, 1, 0, 0, 0, 0, .iload_n 1), (25, 1, 0, 0, 0, 0, .iload_n 2), (26, 3, 121, 7, 4051, 2, .invokevirtual 95)] cs ss L st h) : G Model_point d mc ms cs ss 23 L st h Q := G.run (by decide +kernel) hw
theorem B_Model_point_29 {d mc ms cs ss : Nat} {L : List (Option Value)} {st : List Value} {h : g_H} {Q : g_Po} (hw : g_wp Model_point d mc ms Q 32 [(29, 3, 33, 0, 0, 0, .goto 4)] cs ss L st h) : G Model_point d mc ms cs ss 29 L st h Q := G.run (by decide +kernel) hw
theorem B_Model_point_32 {d mc ms cs ss : Nat} {L : List (Option Value)} {st : List Value} {h : g_H} {Q : g_Po} (hw : g_wp Model_point d mc ms Q 33 [(32, 1, 0, 0, 0, (-1), .iconst (-1))] cs ss L st h) : G Model_point d mc ms cs ss 32 L st h Q := G.run (by decide +kernel) hw
theorem B_Model_point_33 {d mc ms cs ss : Nat} {L : List (Option Value)} {st : List Value} {h : g_H} {Q : g_Po} (hw : g_wp Model_point d mc ms Q 34 [(33, 1, 0, 0, 0, 0, .ireturn)] cs ss L st h) : G Model_point d mc ms cs ss 33 L st h Q := G.run (by decide +kernel) hw
/-! blocks of Model_crossings -/
theorem ml_Model_crossings : (g_m Model_crossings).2.2.1 = 3 := rfl
theorem rt_Model_crossings : (g_m Model_crossings).2.2.2.1 = (some .int) := rfl
theorem B_Model_crossings_0 {d mc ms cs ss : Nat} {L : List (Option Value)} {st : List Value} {h : g_H} {Q : g_Po} (hw : g_wp Model_crossings d mc ms Q 5 [(0, 1, 0, 0, 0, 0, .aload_n 0), (1, 1, 0, 0, 0, 0, .iload_n 1), (2, 3, 116, 7, 4020, 1, .invokevirtual 129)] cs ss L st h) : G Model_crossings d mc ms cs ss 0 L st h Q := G.run (by decide +kernel) hw
theorem B_Model_crossings_5 {d mc ms cs ss : Nat} {L : List (Option Value)} {st : List Value} {h : g_H} {Q : g_Po} (hw : g_wp Model_crossings d mc ms Q 8 [(5, 3, 16, 0, 0, 0, .ifCond .eq 11)] cs ss L st h) : G Model_crossings d mc ms cs ss 5 L st h Q := G.run (by decide +kernel) hw
theorem B_Model_crossings_8 {d mc ms cs ss : Nat} {L : List (Option Value)} {st : List Value} {h : g_H} {Q : g_Po} (hw : g_wp Model_crossings d mc ms Q 13 [(8, 1, 0, 0, 0, 0, .aload_n 0), (9, 1, 0, 0, 0, 0, .iload_n 2), (10, 3, 116, 7, 4020, 1, .invokevirtual 129)] cs ss L st h) : G Model_crossings d mc ms cs ss 8 L st h Q := G.run (by decide +kernel) hw
theorem B_Model_crossings_13 {d mc ms cs ss : Nat} {L : List (Option Value)} {st : List Value} {h : g_H} {Q : g_Po} (hw : g_wp Model_crossings d mc ms Q 16 [(13, 3, 18, 0, 0, 0, .ifCond .ne 5)] cs ss L st h) : G Model_crossings d mc ms cs ss 13 L st h Q := G.run (by decide +kernel) hw
theorem B_Model_crossings_16 {d mc ms cs ss : Nat} {L : List (Option Value)} {st : List Value} {h : g_H} {Q : g_Po} (hw : g_wp Model_crossings d mc ms Q 18 [(16, 1, 0, 0, 0, (-1), .iconst (-1)), (17, 1, 0, 0, 0, 0, .ireturn)] cs ss L st h) : G Model_crossings d mc ms cs ss 16 L st h Q := G.run (by decide +kernel) hw
theorem B_Model_crossings_18 {d mc ms cs ss : Nat} {L : List (Option Value)} {st : List Value} {h : g_H} {Q : g_Po} (hw : g_wp Model_crossings d mc ms Q 23 [(18, 1, 0, 0, 0, 0, .iload_n 1), (19, 1, 0, 0, 0, 0, .iload_n 2), (20, 3, 28, 0, 0, 0, .if_icmp .ne 8)] cs ss L st h) : G Model_crossings d mc ms cs ss 18 L st h Q := G.run (by decide +kernel) hw
theorem B_Model_crossings_23 {d mc ms cs ss : Nat} {L : List (Option Value)} {st : List Value} {h : g_H} {Q : g_Po} (hw : g_wp Model_crossings d mc ms Q 28 [(23, 2, 0, 0, 0, (-2), .bipush (-2)), (25, 3, 34, 0, 0, 0, .goto 9)] cs ss L st h) : G Model_crossings d mc ms cs ss 23 L st h Q := G.run (by decide +kernel) hw
theorem B_Model_crossings_28 {d mc ms cs ss : Nat} {L : List (Option Value)} {st : List Value} {h : g_H} {Q : g_Po} (hw : g_wp Model_crossings d mc ms Q 34 [(28, 1, 0, 0, 0, 0, .aload_n 0), (29, 1, 0, 0, 0, 0, .iload_n 1), (30, 1, 0, 0, 0, 0, .iload_n 2), (31, 3, 175, 7, 5000, 2, .invokevirtual 232)] cs ss L st h) : G Model_crossings d mc ms cs ss 28 L st h Q := G.run (by decide +kernel) hw
theorem B_Model_crossings_34 {d mc ms cs ss : Nat} {L : List (Option Value)} {st : List Value} {h : g_H} {Q : g_Po} (hw : g_wp Model_crossings d mc ms Q 35 [(34, 1, 0, 0, 0, 0, .ireturn)] cs ss L st h) : G Model_crossings d mc ms cs ss 34 L st h Q := G.run (by decide +kernel) hw
/-! blocks of Model_nearest -/
theorem ml_Model_nearest : (g_m Model_nearest).2.2.1 = 8 := rfl
theorem rt_Model_nearest : (g_m Model_nearest).2.2.2.1 = (some .int) := rfl
theorem B_Model_nearest_0 {d mc ms cs ss : Nat} {L : List (Option Value)} {st : List Value} {h : g_H} {Q : g_Po} (hw : g_wp Model_nearest d mc ms Q 5 [(0, 1, 0, 0, 0, 0, .iload_n 1), (1, 1, 0, 0, 0, 0, .iload_n 2), (2, 3, 112, 0, 3213, 2, .invokestatic 77)] cs ss L st h) : G Model_nearest d mc ms cs ss 0 L st h Q := G.run (by decide +kernel) hw
theorem B_Model_nearest_5 {d mc ms cs ss : Nat} {L : List (Option Value)} {st : List Value} {h : g_H} {Q : g_Po} (hw : g_wp Model_nearest d mc ms Q 8 [(5, 3, 11, 0, 0, 0, .ifCond .ne 6)] cs ss L st h) : G Model_nearest d mc ms cs ss 5 L st h Q := G.run (by decide +kernel) hw
theorem B_Model_nearest_8 {d mc ms cs ss : Nat} {L : List (Option Value)} {st : List Value} {h : g_H} {Q : g_Po} (hw : g_wp Model_nearest d mc ms Q 11 [(8, 2, 0, 0, 0, (-2), .bipush (-2)), (10, 1, 0, 0, 0, 0, .ireturn)] cs ss L st h) : G Model_nearest d mc ms cs ss 8 L st h Q := G.run (by decide +kernel) hw
theorem B_Model_nearest_11 {d mc ms cs ss : Nat} {L : List (Option Value)} {st : List Value} {h : g_H} {Q : g_Po} (hw : g_wp Model_nearest d mc ms Q 20 [(11, 2, 0, 0, 0, (-6), .bipush (-6)), (13, 1, 0, 0, 0, 0, .istore_n 3), (14, 1, 0, 0, 0, 0, .iconst 0), (15, 2, 0, 0, 0, 0, .istore 4), (17, 1, 0, 0, 0, 0, .iconst 0), (18, 2, 0, 0, 0, 0, .istore 5)] cs ss L st h) : G Model_nearest d mc ms cs ss 11 L st h Q := G.run (by decide +kernel) hw
theorem B_Model_nearest_20 {d mc ms cs ss : Nat} {L : List (Option Value)} {st : List Value} {h : g_H} {Q : g_Po} (hw : g_wp Model_nearest d mc ms Q 31 [(20, 2, 0, 0, 0, 0, .iload 5), (22, 1, 0, 0, 0, 0, .aload_n 0), (23, 3, 7, 0, 3145, 2, .getfield 7), (26, 1, 0, 0, 0, 0, .iconst 0), (27, 1, 0, 0, 0, 0, .iaload), (28, 3, 101, 0, 0, 0, .if_icmp .ge 73)] cs ss L st h) : G Model_nearest d mc ms cs ss 20 L st h Q := G.run (by decide +kernel) hw
theorem B_Model_nearest_31 {d mc ms cs ss : Nat} {L : List (Option Value)} {st : List Value} {h : g_H} {Q : g_Po} (hw : g_wp Model_nearest d mc ms Q 34 [(31, 1, 0, 0, 0, 0, .iconst 0), (32, 2, 0, 0, 0, 0, .istore 6)] cs ss L st h) : G Model_nearest d mc ms cs ss 31 L st h Q := G.run (by decide +kernel) hw
theorem B_Model_nearest_34 {d mc ms cs ss : Nat} {L : List (Option Value)} {st : List Value} {h : g_H} {Q : g_Po} (hw : g_wp Model_nearest d mc ms Q 42 [(34, 2, 0, 0, 0, 0, .iload 6), (36, 1, 0, 0, 0, 0, .aload_n 0), (37, 2, 0, 0, 0, 0, .iload 5), (39, 3, 119, 7, 4047, 1, .invokevirtual 57)] cs ss L st h) : G Model_nearest d mc ms cs ss 34 L st h Q := G.run (by decide +kernel) hw
theorem B_Model_nearest_42 {d mc ms cs ss : Nat} {L : List (Option Value)} {st : List Value} {h : g_H} {Q : g_Po} (hw : g_wp Model_nearest d mc ms Q 45 [(42, 3, 95, 0, 0, 0, .if_icmp .ge 53)] cs ss L st h) : G Model_nearest d mc ms cs ss 42 L st h Q := G.run (by decide +kernel) hw
theorem B_Model_nearest_45 {d mc ms cs ss : Nat} {L : List (Option Value)} {st : List Value} {h : g_H} {Q : g_Po} (hw : g_wp Model_nearest d mc ms Q 50 [(45, 1, 0, 0, 0, 0, .iload_n 1), (46, 1, 0, 0, 0, 0, .iload_n 2), (47, 3, 113, 0, 3229, 2, .invokestatic 84)] cs ss L st h) : G Model_nearest d mc ms cs ss 45 L st h Q := G.run (by decide +kernel) hw
theorem B_Model_nearest_50 {d mc ms cs ss : Nat} {L : List (Option Value)} {st : List Value} {h : g_H} {Q : g_Po} (hw : g_wp Model_nearest d mc ms Q 58 [(50, 1, 0, 0, 0, 0, .aload_n 0), (51, 2, 0, 0, 0, 0, .iload 5), (53, 2, 0, 0, 0, 0, .iload 6), (55, 3, 121, 7, 4051, 2, .invokevirtual 95)] cs ss L st h) : G Model_nearest d mc ms cs ss 50 L st h Q := G.run (by decide +kernel) hw
theorem B_Model_nearest_58 {d mc ms cs ss : Nat} {L : List (Option Value)} {st : List Value} {h : g_H} {Q : g_Po} (hw : g_wp Model_nearest d mc ms Q 61 [(58, 3, 123, 0, 4055, 2, .invokestatic 98)] cs ss L st h) : G Model_nearest d mc ms cs ss 58 L st h Q := G.run (by decide +kernel) hw
theorem B_Model_nearest_61 {d mc ms cs ss : Nat} {L : List (Option Value)} {st : List Value} {h : g_H} {Q : g_Po} (hw : g_wp Model_nearest d mc ms Q 69 [(61, 2, 0, 0, 0, 0, .istore 7), (63, 1, 0, 0, 0, 0, .iload_n 3), (64, 2, 0, 0, 0, (-6), .bipush (-6)), (66, 3, 76, 0, 0, 0, .if_icmp .eq 10)] cs ss L st h) : G Model_nearest d mc ms cs ss 61 L st h Q := G.run (by decide +kernel) hw
theorem B_Model_nearest_69 {d mc ms cs ss : Nat} {L : List (Option Value)} {st : List Value} {h : g_H} {Q : g_Po} (hw : g_wp Model_nearest d mc ms Q 76 [(69, 2, 0, 0, 0, 0, .iload 7), (71, 2, 0, 0, 0, 0, .iload 4), (73, 3, 89, 0, 0, 0, .if_icmp .ge 16)] cs ss L st h) : G Model_nearest d mc ms cs ss 69 L st h Q := G.run (by decide +kernel) hw
theorem B_Model_nearest_76 {d mc ms cs ss : Nat} {L : List (Option Value)} {st : List Value} {h : g_H} {Q : g_Po} (hw : g_wp Model_nearest d mc ms Q 89 [(76, 2, 0, 0, 0, 100, .bipush 100), (78, 2, 0, 0, 0, 0, .iload 5), (80, 1, 0, 0, 0, 0, .imul), (81, 2, 0, 0, 0, 0, .iload 6), (83, 1, 0, 0, 0, 0, .iadd), (84, 1, 0, 0, 0, 0, .istore_n 3), (85, 2, 0, 0, 0, 0, .iload 7), (87, 2, 0, 0, 0, 0, .istore 4)] cs ss L st h) : G Model_nearest d mc ms cs ss 76 L st h Q := G.run (by decide +kernel) hw
theorem B_Model_nearest_89 {d mc ms cs ss : Nat} {L : List (Option Value)} {st : List Value} {h : g_H} {Q : g_Po} (hw : g_wp Model_nearest d mc ms Q 95 [(89, 3, 0, 0, 0, 1, .iinc 6 1), (92, 3, 34, 0, 0, 0, .goto (-58))] cs ss L st h) : G Model_nearest d mc ms cs ss 89 L st h Q := G.run (by decide +kernel) hw
theorem B_Model_nearest_95 {d mc ms cs ss : Nat} {L : List (Option Value)} {st : List Value} {h : g_H} {Q : g_Po} (hw : g_wp Model_nearest d mc ms Q 101 [(95, 3, 0, 0, 0, 1, .iinc 5 1), (98, 3, 20, 0, 0, 0, .goto (-78))] cs ss L st h) : G Model_nearest d mc ms cs ss 95 L st h Q := G.run (by decide +kernel) hw
theorem B_Model_nearest_101 {d mc ms cs ss : Nat} {L : List (Option Value)} {st : List Value} {h : g_H} {Q : g_Po} (hw : g_wp Model_nearest d mc ms Q 103 [(101, 1, 0, 0, 0, 0, .iload_n 3), (102, 1, 0, 0, 0, 0, .ireturn)] cs ss L st h) : G Model_nearest d mc ms cs ss 101 L st h Q := G.run (by decide +kernel) hw
/-! blocks of Model_isInside -/
theorem ml_Model_isInside : (g_m Model_isInside).2.2.1 = 6 := rfl
theorem rt_Model_isInside : (g_m Model_isInside).2.2.2.1 = (some .int) := rfl
theorem B_Model_isInside_0 {d mc ms cs ss : Nat} {L : List (Option Value)} {st : List Value} {h : g_H} {Q : g_Po} (hw : g_wp Model_isInside d mc ms Q 5 [(0, 1, 0, 0, 0, 0, .aload_n 0), (1, 1, 0, 0, 0, 0, .iload_n 1), (2, 3, 116, 7, 4020, 1, .invokevirtual 129)] cs ss L st h) : G Model_isInside d mc ms cs ss 0 L st h Q := G.run (by decide +kernel) hw
theorem B_Model_isInside_5 {d mc ms cs ss : Nat} {L : List (Option Value)} {st : List Value} {h : g_H} {Q : g_Po} (hw : g_wp Model_isInside d mc ms Q 8 [(5, 3, 10, 0, 0, 0, .ifCond .ne 5)] cs ss L st h) : G Model_isInside d mc ms cs ss 5 L st h Q := G.run (by decide +kernel) hw
theorem B_Model_isInside_8 {d mc ms cs ss : Nat} {L : List (Option Value)} {st : List Value} {h : g_H} {Q : g_Po} (hw : g_wp Model_isInside d mc ms Q 10 [(8, 1, 0, 0, 0, (-1), .iconst (-1)), (9, 1, 0, 0, 0, 0, .ireturn)] cs ss L st h) : G Model_isInside d mc ms cs ss 8 L st h Q := G.run (by decide +kernel) hw
theorem B_Model_isInside_10 {d mc ms cs ss : Nat} {L : List (Option Value)} {st : List Value} {h : g_H} {Q : g_Po} (hw : g_wp Model_isInside d mc ms Q 15 [(10, 1, 0, 0, 0, 0, .iload_n 2), (11, 1, 0, 0, 0, 0, .iload_n 3), (12, 3, 112, 0, 3213, 2, .invokestatic 77)] cs ss L st h) : G Model_isInside d mc ms cs ss 10 L st h Q := G.run (by decide +kernel) hw
theorem B_Model_isInside_15 {d mc ms cs ss : Nat} {L : List (Option Value)} {st : List Value} {h : g_H} {Q : g_Po} (hw : g_wp Model_isInside d mc ms Q 18 [(15, 3, 21, 0, 0, 0, .ifCond .ne 6)] cs ss L st h) : G Model_isInside d mc ms cs ss 15 L st h Q := G.run (by decide +kernel) hw
theorem B_Model_isInside_18 {d mc ms cs ss : Nat} {L : List (Option Value)} {st : List Value} {h : g_H} {Q : g_Po} (hw : g_wp Model_isInside d mc ms Q 21 [(18, 2, 0, 0, 0, (-2), .bipush (-2)), (20, 1, 0, 0, 0, 0, .ireturn)] cs ss L st h) : G Model_isInside d mc ms cs ss 18 L st h Q := G.run (by decide +kernel) hw
theorem B_Model_isInside_21 {d mc ms cs ss : Nat} {L : List (Option Value)} {st : List Value} {h : g_H} {Q : g_Po} (hw : g_wp Model_isInside d mc ms Q 26 [(21, 1, 0, 0, 0, 0, .aload_n 0), (22, 1, 0, 0, 0, 0, .iload_n 1), (23, 3, 120, 7, 4035, 1, .invokevirtual 61)] cs ss L st h) : G Model_isInside d mc ms cs ss 21 L st h Q := G.run (by decide +kernel) hw
theorem B_Model_isInside_26 {d mc ms cs ss : Nat} {L : List (Option Value)} {st : List Value} {h : g_H} {Q : g_Po} (hw : g_wp Model_isInside d mc ms Q 29 [(26, 3, 32, 0, 0, 0, .ifCond .ne 6)] cs ss L st h) : G Model_isInside d mc ms cs ss 26 L st h Q := G.run (by decide +kernel) hw
theorem B_Model_isInside_29 {d mc ms cs ss : Nat} {L : List (Option Value)} {st : List Value} {h : g_H} {Q : g_Po} (hw : g_wp Model_isInside d mc ms Q 32 [(29, 2, 0, 0, 0, (-3), .bipush (-3)), (31, 1, 0, 0, 0, 0, .ireturn)] cs ss L st h) : G Model_isInside d mc ms cs ss 29 L st h Q := G.run (by decide +kernel) hw
theorem B_Model_isInside_32 {d mc ms cs ss : Nat} {L : List (Option Value)} {st : List Value} {h : g_H} {Q : g_Po} (hw : g_wp Model_isInside d mc ms Q 38 [(32, 1, 0, 0, 0, 0, .iconst 0), (33, 2, 0, 0, 0, 0, .istore 4), (35, 1, 0, 0, 0, 0, .iconst 0), (36, 2, 0, 0, 0, 0, .istore 5)] cs ss L st h) : G Model_isInside d mc ms cs ss 32 L st h Q := G.run (by decide +kernel) hw
theorem B_Model_isInside_38 {d mc ms cs ss : Nat} {L : List (Option Value)} {st : List Value} {h : g_H} {Q : g_Po} (hw : g_wp Model_isInside d mc ms Q 45 [(38, 2, 0, 0, 0, 0, .iload 5), (40, 1, 0, 0, 0, 0, .aload_n 0), (41, 1, 0, 0, 0, 0, .iload_n 1), (42, 3, 122, 7, 4203, 1, .invokevirtual 200)] cs ss L st h) : G Model_isInside d mc ms cs ss 38 L st h Q := G.run (by decide +kernel) hw
theorem B_Model_isInside_45 {d mc ms cs ss : Nat} {L : List (Option Value)} {st : List Value} {h : g_H} {Q : g_Po} (hw : g_wp Model_isInside d mc ms Q 48 [(45, 3, 88, 0, 0, 0, .if_icmp .ge 43)] cs ss L st h) : G Model_isInside d mc ms cs ss 45 L st h Q := G.run (by decide +kernel) hw
theorem B_Model_isInside_48 {d mc ms cs ss : Nat} {L : List (Option Value)} {st : List Value} {h : g_H} {Q : g_Po} (hw : g_wp Model_isInside d mc ms Q 57 [(48, 2, 0, 0, 0, 0, .iload 4), (50, 1, 0, 0, 0, 0, .aload_n 0), (51, 1, 0, 0, 0, 0, .iload_n 1), (52, 2, 0, 0, 0, 0, .iload 5), (54, 3, 121, 7, 4051, 2, .invokevirtual 95)] cs ss L st h) : G Model_isInside d mc ms cs ss 48 L st h Q := G.run (by decide +kernel) hw
theorem B_Model_isInside_57 {d mc ms cs ss : Nat} {L : List (Option Value)} {st : List Value} {h : g_H} {Q : g_Po} (hw : g_wp Model_isInside d mc ms Q 66 [(57, 1, 0, 0, 0, 0, .aload_n 0), (58, 1, 0, 0, 0, 0, .iload_n 1), (59, 2, 0, 0, 0, 0, .iload 5), (61, 1, 0, 0, 0, 1, .iconst 1), (62, 1, 0, 0, 0, 0, .iadd), (63, 3, 121, 7, 4051, 2, .invokevirtual 95)] cs ss L st h) : G Model_isInside d mc ms cs ss 57 L st h Q := G.run (by decide +kernel) hw
theorem B_Model_isInside_66 {d mc ms cs ss : Nat} {L : List (Option Value)} {st : List Value} {h : g_H} {Q : g_Po} (hw : g_wp Model_isInside d mc ms Q 71 [(66, 1, 0, 0, 0, 0, .iload_n 2), (67, 1, 0, 0, 0, 0, .iload_n 3), (68, 3, 182, 0, 5012, 4, .invokestatic 235)] cs ss L st h) : G Model_isInside d mc ms cs ss 66 L st h Q := G.run (by decide +kernel) hw
theorem B_Model_isInside_71 {d mc ms cs ss : Nat} {L : List (Option Value)} {st : List Value} {h : g_H} {Q : g_Po} (hw : g_wp Model_isInside d mc ms Q 74 [(71, 3, 78, 0, 0, 0, .ifCond .eq 7)] cs ss L st h) : G Model_isInside d mc ms cs ss 71 L st h Q := G.run (by decide +kernel) hw
theorem B_Model_isInside_74 {d mc ms cs ss : Nat} {L : List (Option Value)} {st : List Value} {h : g_H} {Q : g_Po} (hw : g_wp Model_isInside d mc ms Q 78 [(74, 1, 0, 0, 0, 1, .iconst 1), (75, 3, 79, 0, 0, 0, .goto 4)] cs ss L st h) : G Model_isInside d mc ms cs ss 74 L st h Q := G.run (by decide +kernel) hw
theorem B_Model_isInside_78 {d mc ms cs ss : Nat} {L : List (Option Value)} {st : List Value} {h : g_H} {Q : g_Po} (hw : g_wp Model_isInside d mc ms Q 79 [(78, 1, 0, 0, 0, 0, .iconst 0)] cs ss L st h) : G Model_isInside d mc ms cs ss 78 L st h Q := G.run (by decide +kernel) hw
theorem B_Model_isInside_79 {d mc ms cs ss : Nat} {L : List (Option Value)} {st : List Value} {h : g_H} {Q : g_Po} (hw : g_wp Model_isInside d mc ms Q 88 [(79, 1, 0, 0, 0, 0, .iadd), (80, 2, 0, 0, 0, 0, .istore 4), (82, 3, 0, 0, 0, 1, .iinc 5 1), (85, 3, 38, 0, 0, 0, .goto (-47))] cs ss L st h) : G Model_isInside d mc ms cs ss 79 L st h Q := G.run (by decide +kernel) hw
theorem B_Model_isInside_88 {d mc ms cs ss : Nat} {L : List (Option Value)} {st : List Value} {h : g_H} {Q : g_Po} (hw : g_wp Model_isInside d mc ms Q 93 [(88, 2, 0, 0, 0, 0, .iload 4), (90, 1, 0, 0, 0, 2, .iconst 2), (91, 1, 0, 0, 0, 0, .irem), (92, 1, 0, 0, 0, 0, .ireturn)] cs ss L st h) : G Model_isInside d mc ms cs ss 88 L st h Q := G.run (by decide +kernel) hw
/-! blocks of Model_strokes -/
theorem ml_Model_strokes : (g_m Model_strokes).2.2.1 = 1 := rfl
theorem rt_Model_strokes : (g_m Model_strokes).2.2.2.1 = (some .int) := rfl
theorem B_Model_strokes_0 {d mc ms cs ss : Nat} {L : List (Option Value)} {st : List Value} {h : g_H} {Q : g_Po} (hw : g_wp Model_strokes d mc ms Q 7 [(0, 1, 0, 0, 0, 0, .aload_n 0), (1, 3, 7, 0, 3145, 2, .getfield 7), (4, 1, 0, 0, 0, 0, .iconst 0), (5, 1, 0, 0, 0, 0, .iaload), (6, 1, 0, 0, 0, 0, .ireturn)] cs ss L st h) : G Model_strokes d mc ms cs ss 0 L st h Q := G.run (by decide +kernel) hw
theorem inS_a {A0 s : Int} {Ss : List Stk} (a : A0 = Ss.length) : (0 ≤ s ∧ s < A0) ↔ inS Ss s := by rw [a]
theorem Mdl_strokes_c {d M : Nat} {W : Wd} {h : g_H} {Q : g_Po} (hp : mrep h M W) (hQ : MQ9 M h Q (sp_strokes W)) : Call Model_strokes d 0 0 [.ref M] h Q := by
  obtain ⟨r, A, hm, hs⟩ := id hp
  have a1 : A 1 0 = W.1.1.length := hs.1.1
  have k0 := ex_ie (x := 0) (i := 0) (n := 352) rfl (by omega)
  refine Call.intro (by rfl) (Nat.le_of_ble_eq_true rfl) ?_
  refine G.eqL (L := [some (.ref _)]) rfl ?_
  refine B_Model_strokes_0 ?_
  simp only [wp_cons, wp_nil, List.getElem?_cons_zero, List.getElem?_cons_succ, List.set_cons_zero, List.set_cons_succ, s_aload_n0, ldA_r, ldA_n, s_getfield, pR_s, ob_s, gt_s, s_iconst, s_iaload, iR_s, ia_s, s_ireturn, p1_s, rI_i, rI_z, rI_c, z_01, z_11, rt_Model_strokes, true_and, and_true, Nat.le_refl, true_implies, forall_const, not_false_eq_true, false_implies, not_true_eq_false, reduceCtorEq, tl_s, tl_n, rf_s, List.cons_append, List.nil_append, true_or, or_true, hm.c, hm.g1, a1, k0, ex_ie]
  exact hQ h chg.rf hp
theorem Mdl_isS2_c {d M : Nat} (d2 : 2 ≤ d) {s : Int} {st : Sta} {r : Nat → Int} {A : Nat → Nat → Int} {h : g_H} {Q : g_Po} (hm : mdl h M r A) (hr : stR (A 1) st) (w : wfL st.1) (hs : i32 s) (hT : inS st.1 s → Q (some (.int (I 1))) h) (hF : ¬ inS st.1 s → Q (some (.int (I 0))) h) : Call Model_isStroke d 0 0 [.ref M, .int (I s)] h Q := by
  have a1 := hr.1
  have w0 := w.1
  refine Mdl_isS_c (by omega) hm hs (by omega) (fun c => hT ⟨c.1, by omega⟩) (fun c => hF (fun q => c ⟨q.1, by have := q.2; omega⟩))
theorem Mdl_of_c {d M : Nat} (hd : 9 ≤ d) {W : Wd} {s v : Int} {h : g_H} {Q : g_Po} (w : wfW W) (hp : mrep h M W) (hs : i32 s) (hv : i32 v) (hQ : MQ9 M h Q (sp_of W s v)) : Call Model_of d 0 0 [.ref M, .int (I s), .int (I v)] h Q := by
  have d1 : 1 ≤ d := by omega
  obtain ⟨⟨Ss, pn⟩, Hs, T, l⟩ := W
  obtain ⟨r, A, hm, ht⟩ := id hp
  have wl := w.g.1.l
  unfold sp_of at hQ
  dsimp only at hQ
  refine Call.intro (by rfl) (Nat.le_of_ble_eq_true rfl) ?_
  refine G.eqL (L := [some (.ref _), some (.int _), some (.int _)]) rfl ?_
  refine B_Model_of_0 ?_
  simp only [wp_cons, wp_nil, List.getElem?_cons_zero, List.getElem?_cons_succ, List.set_cons_zero, List.set_cons_succ, s_aload_n0, ldA_r, ldA_n, s_iload_n1, ldI_s, s_invokevirtual, rc_s, ob_s, List.drop_succ_cons, List.drop_zero, List.take_succ_cons, List.take_zero, List.reverse_cons, List.reverse_nil, List.nil_append, List.cons_append, List.length_cons, List.length_nil, d1, Int.reduceToNat, Nat.reduceAdd, Nat.reduceLeDiff, true_and, and_true, Nat.le_refl, true_implies, forall_const, not_false_eq_true, false_implies, not_true_eq_false, reduceCtorEq, tl_s, tl_n, rf_s, true_or, or_true, hm.c]
  refine Mdl_isS2_c (by omega) hm ht.1 wl hs (fun c1 => ?_) (fun c1 => ?_)
  · rw [if_neg (fun q => q c1)] at hQ
    obtain ⟨i, rfl, hi⟩ := nat_of c1
    rw [tn_i] at hQ
    refine B_Model_of_5 ?_
    simp only [wp_cons, wp_nil, List.getElem?_cons_zero, List.getElem?_cons_succ, List.set_cons_zero, List.set_cons_succ, s_ifCond_ne, p1_s, true_and, and_true, Nat.le_refl, true_implies, forall_const, not_false_eq_true, false_implies, not_true_eq_false, reduceCtorEq, tl_s, tl_n, rf_s, List.cons_append, List.nil_append, true_or, or_true, hm.c]
    refine b_ne (by omega) (by omega) (fun cc => ?_) (fun cc => absurd cc (by omega))
    refine B_Model_of_10 ?_
    simp only [wp_cons, wp_nil, List.getElem?_cons_zero, List.getElem?_cons_succ, List.set_cons_zero, List.set_cons_succ, s_iload_n2, ldI_s, s_iconst, s_bipush, s_invokestatic, rc_s, ob_s, List.drop_succ_cons, List.drop_zero, List.take_succ_cons, List.take_zero, List.reverse_cons, List.reverse_nil, List.nil_append, List.cons_append, List.length_cons, List.length_nil, Nat.reduceEqDiff, reduceIte, p1_s, p2_s, l1_s, d1, Int.reduceToNat, Nat.reduceAdd, Nat.reduceLeDiff, true_and, and_true, Nat.le_refl, true_implies, forall_const, not_false_eq_true, false_implies, not_true_eq_false, reduceCtorEq, tl_s, tl_n, rf_s, true_or, or_true, hm.c]
    refine Mdl_within_c hv (by omega) (by omega) (fun c2 => ?_) (fun c2 => ?_)
    · rw [if_neg (fun q => q c2)] at hQ
      obtain ⟨k, rfl, hk⟩ := nat_of (n := 10) (show 0 ≤ v ∧ v < ((10 : Nat) : Int) by omega)
      rw [tn_i] at hQ
      refine B_Model_of_17 ?_
      simp only [wp_cons, wp_nil, List.getElem?_cons_zero, List.getElem?_cons_succ, List.set_cons_zero, List.set_cons_succ, s_ifCond_eq, p1_s, true_and, and_true, Nat.le_refl, true_implies, forall_const, not_false_eq_true, false_implies, not_true_eq_false, reduceCtorEq, tl_s, tl_n, rf_s, List.cons_append, List.nil_append, true_or, or_true, hm.c]
      refine b_eq (by omega) (by omega) (fun cc => absurd cc (by omega)) (fun cc => ?_)
      refine B_Model_of_20 ?_
      simp only [wp_cons, wp_nil, List.getElem?_cons_zero, List.getElem?_cons_succ, List.set_cons_zero, List.set_cons_succ, s_aload_n0, ldA_r, ldA_n, s_iload_n1, ldI_s, s_iload_n2, s_invokevirtual, rc_s, ob_s, List.drop_succ_cons, List.drop_zero, List.take_succ_cons, List.take_zero, List.reverse_cons, List.reverse_nil, List.nil_append, List.cons_append, List.length_cons, List.length_nil, d1, Int.reduceToNat, Nat.reduceAdd, Nat.reduceLeDiff, true_and, and_true, Nat.le_refl, true_implies, forall_const, not_false_eq_true, false_implies, not_true_eq_false, reduceCtorEq, tl_s, tl_n, rf_s, true_or, or_true, hm.c]
      refine Mdl_ofS_c (by omega) hm ht.1 wl hi (by omega) ?_
      refine B_Model_of_26 ?_
      simp only [wp_cons, wp_nil, List.getElem?_cons_zero, List.getElem?_cons_succ, List.set_cons_zero, List.set_cons_succ, s_goto, true_and, and_true, Nat.le_refl, true_implies, forall_const, not_false_eq_true, false_implies, not_true_eq_false, reduceCtorEq, tl_s, tl_n, rf_s, List.cons_append, List.nil_append, true_or, or_true, hm.c]
      refine B_Model_of_31 ?_
      simp only [wp_cons, wp_nil, List.getElem?_cons_zero, List.getElem?_cons_succ, List.set_cons_zero, List.set_cons_succ, s_ireturn, p1_s, rI_i, rI_z, rI_c, z_01, z_11, rt_Model_of, true_and, and_true, Nat.le_refl, true_implies, forall_const, not_false_eq_true, false_implies, not_true_eq_false, reduceCtorEq, tl_s, tl_n, rf_s, List.cons_append, List.nil_append, true_or, or_true, hm.c]
      exact hQ h chg.rf hp
    · rw [if_pos c2] at hQ
      refine B_Model_of_17 ?_
      simp only [wp_cons, wp_nil, List.getElem?_cons_zero, List.getElem?_cons_succ, List.set_cons_zero, List.set_cons_succ, s_ifCond_eq, p1_s, true_and, and_true, Nat.le_refl, true_implies, forall_const, not_false_eq_true, false_implies, not_true_eq_false, reduceCtorEq, tl_s, tl_n, rf_s, List.cons_append, List.nil_append, true_or, or_true, hm.c]
      refine B_Model_of_29 ?_
      simp only [wp_cons, wp_nil, List.getElem?_cons_zero, List.getElem?_cons_succ, List.set_cons_zero, List.set_cons_succ, s_bipush, true_and, and_true, Nat.le_refl, true_implies, forall_const, not_false_eq_true, false_implies, not_true_eq_false, reduceCtorEq, tl_s, tl_n, rf_s, List.cons_append, List.nil_append, true_or, or_true, hm.c]
      refine B_Model_of_31 ?_
      simp only [wp_cons, wp_nil, List.getElem?_cons_zero, List.getElem?_cons_succ, List.set_cons_zero, List.set_cons_succ, s_ireturn, p1_s, rI_i, rI_z, rI_c, z_01, z_11, rt_Model_of, true_and, and_true, Nat.le_refl, true_implies, forall_const, not_false_eq_true, false_implies, not_true_eq_false, reduceCtorEq, tl_s, tl_n, rf_s, List.cons_append, List.nil_append, true_or, or_true, hm.c]
      exact hQ h chg.rf hp
  · rw [if_pos c1] at hQ
    refine B_Model_of_5 ?_
    simp only [wp_cons, wp_nil, List.getElem?_cons_zero, List.getElem?_cons_succ, List.set_cons_zero, List.set_cons_succ, s_ifCond_ne, p1_s, true_and, and_true, Nat.le_refl, true_implies, forall_const, not_false_eq_true, false_implies, not_true_eq_false, reduceCtorEq, tl_s, tl_n, rf_s, List.cons_append, List.nil_append, true_or, or_true, hm.c]
    refine B_Model_of_8 ?_
    simp only [wp_cons, wp_nil, List.getElem?_cons_zero, List.getElem?_cons_succ, List.set_cons_zero, List.set_cons_succ, s_iconst, s_ireturn, p1_s, rI_i, rI_z, rI_c, z_01, z_11, rt_Model_of, true_and, and_true, Nat.le_refl, true_implies, forall_const, not_false_eq_true, false_implies, not_true_eq_false, reduceCtorEq, tl_s, tl_n, rf_s, List.cons_append, List.nil_append, true_or, or_true, hm.c]
    exact hQ h chg.rf hp
theorem Mdl_point_c {d M : Nat} (hd : 9 ≤ d) {W : Wd} {s k : Int} {h : g_H} {Q : g_Po} (w : wfW W) (hp : mrep h M W) (hs : i32 s) (hk : i32 k) (hQ : MQ9 M h Q (sp_point W s k)) : Call Model_point d 0 0 [.ref M, .int (I s), .int (I k)] h Q := by
  have d1 : 1 ≤ d := by omega
  obtain ⟨⟨Ss, pn⟩, Hs, T, l⟩ := W
  obtain ⟨r, A, hm, ht⟩ := id hp
  have wl := w.g.1.l
  unfold sp_point at hQ
  dsimp only at hQ
  refine Call.intro (by rfl) (Nat.le_of_ble_eq_true rfl) ?_
  refine G.eqL (L := [some (.ref _), some (.int _), some (.int _)]) rfl ?_
  refine B_Model_point_0 ?_
  simp only [wp_cons, wp_nil, List.getElem?_cons_zero, List.getElem?_cons_succ, List.set_cons_zero, List.set_cons_succ, s_aload_n0, ldA_r, ldA_n, s_iload_n1, ldI_s, s_invokevirtual, rc_s, ob_s, List.drop_succ_cons, List.drop_zero, List.take_succ_cons, List.take_zero, List.reverse_cons, List.reverse_nil, List.nil_append, List.cons_append, List.length_cons, List.length_nil, d1, Int.reduceToNat, Nat.reduceAdd, Nat.reduceLeDiff, true_and, and_true, Nat.le_refl, true_implies, forall_const, not_false_eq_true, false_implies, not_true_eq_false, reduceCtorEq, tl_s, tl_n, rf_s, true_or, or_true, hm.c]
  refine Mdl_isS2_c (by omega) hm ht.1 wl hs (fun c1 => ?_) (fun c1 => ?_)
  · obtain ⟨i, rfl, hi⟩ := nat_of c1
    rw [tn_i] at hQ
    have hn := (wl.2 i hi).2.1
    have hn1 := (wl.2 i hi).1
    refine B_Model_point_5 ?_
    simp only [wp_cons, wp_nil, List.getElem?_cons_zero, List.getElem?_cons_succ, List.set_cons_zero, List.set_cons_succ, s_ifCond_eq, p1_s, true_and, and_true, Nat.le_refl, true_implies, forall_const, not_false_eq_true, false_implies, not_true_eq_false, reduceCtorEq, tl_s, tl_n, rf_s, List.cons_append, List.nil_append, true_or, or_true, hm.c]
    refine b_eq (by omega) (by omega) (fun cc => absurd cc (by omega)) (fun cc => ?_)
    refine B_Model_point_8 ?_
    simp only [wp_cons, wp_nil, List.getElem?_cons_zero, List.getElem?_cons_succ, List.set_cons_zero, List.set_cons_succ, s_iload_n2, ldI_s, s_iconst, s_aload_n0, ldA_r, ldA_n, s_iload_n1, s_invokevirtual, rc_s, ob_s, List.drop_succ_cons, List.drop_zero, List.take_succ_cons, List.take_zero, List.reverse_cons, List.reverse_nil, List.nil_append, List.cons_append, List.length_cons, List.length_nil, d1, Int.reduceToNat, Nat.reduceAdd, Nat.reduceLeDiff, true_and, and_true, Nat.le_refl, true_implies, forall_const, not_false_eq_true, false_implies, not_true_eq_false, reduceCtorEq, tl_s, tl_n, rf_s, true_or, or_true, hm.c]
    refine Mdl_len_c (by omega) hm ht.1 wl hi ?_
    refine B_Model_point_15 ?_
    simp only [wp_cons, wp_nil, List.getElem?_cons_zero, List.getElem?_cons_succ, List.set_cons_zero, List.set_cons_succ, s_iconst, s_isub, p2_s, I_sub, s_invokestatic, rc_s, ob_s, List.drop_succ_cons, List.drop_zero, List.take_succ_cons, List.take_zero, List.reverse_cons, List.reverse_nil, List.nil_append, List.cons_append, List.length_cons, List.length_nil, Nat.reduceEqDiff, reduceIte, p1_s, l1_s, d1, Int.reduceToNat, Nat.reduceAdd, Nat.reduceLeDiff, true_and, and_true, Nat.le_refl, true_implies, forall_const, not_false_eq_true, false_implies, not_true_eq_false, reduceCtorEq, tl_s, tl_n, rf_s, true_or, or_true, hm.c]
    refine Mdl_within_c hk (by omega) (by omega) (fun c2 => ?_) (fun c2 => ?_)
    · rw [if_neg (fun q => q ⟨c1, c2.1, by omega⟩)] at hQ
      obtain ⟨j, rfl, hj⟩ := nat_of (n := (sg Ss i).1.length) (show 0 ≤ k ∧ k < (((sg Ss i).1.length : Nat) : Int) by omega)
      rw [tn_i] at hQ
      refine B_Model_point_20 ?_
      simp only [wp_cons, wp_nil, List.getElem?_cons_zero, List.getElem?_cons_succ, List.set_cons_zero, List.set_cons_succ, s_ifCond_eq, p1_s, true_and, and_true, Nat.le_refl, true_implies, forall_const, not_false_eq_true, false_implies, not_true_eq_false, reduceCtorEq, tl_s, tl_n, rf_s, List.cons_append, List.nil_append, true_or, or_true, hm.c]
      refine b_eq (by omega) (by omega) (fun cc => absurd cc (by omega)) (fun cc => ?_)
      refine B_Model_point_23 ?_
      simp only [wp_cons, wp_nil, List.getElem?_cons_zero, List.getElem?_cons_succ, List.set_cons_zero, List.set_cons_succ, s_aload_n0, ldA_r, ldA_n, s_iload_n1, ldI_s, s_iload_n2, s_invokevirtual, rc_s, ob_s, List.drop_succ_cons, List.drop_zero, List.take_succ_cons, List.take_zero, List.reverse_cons, List.reverse_nil, List.nil_append, List.cons_append, List.length_cons, List.length_nil, d1, Int.reduceToNat, Nat.reduceAdd, Nat.reduceLeDiff, true_and, and_true, Nat.le_refl, true_implies, forall_const, not_false_eq_true, false_implies, not_true_eq_false, reduceCtorEq, tl_s, tl_n, rf_s, true_or, or_true, hm.c]
      refine Mdl_pAt_c (by omega) hm ht.1 wl hi hj ?_
      refine B_Model_point_29 ?_
      simp only [wp_cons, wp_nil, List.getElem?_cons_zero, List.getElem?_cons_succ, List.set_cons_zero, List.set_cons_succ, s_goto, true_and, and_true, Nat.le_refl, true_implies, forall_const, not_false_eq_true, false_implies, not_true_eq_false, reduceCtorEq, tl_s, tl_n, rf_s, List.cons_append, List.nil_append, true_or, or_true, hm.c]
      refine B_Model_point_33 ?_
      simp only [wp_cons, wp_nil, List.getElem?_cons_zero, List.getElem?_cons_succ, List.set_cons_zero, List.set_cons_succ, s_ireturn, p1_s, rI_i, rI_z, rI_c, z_01, z_11, rt_Model_point, true_and, and_true, Nat.le_refl, true_implies, forall_const, not_false_eq_true, false_implies, not_true_eq_false, reduceCtorEq, tl_s, tl_n, rf_s, List.cons_append, List.nil_append, true_or, or_true, hm.c]
      exact hQ h chg.rf hp
    · rw [if_pos (fun q => c2 ⟨q.2.1, by have := q.2.2; omega⟩)] at hQ
      refine B_Model_point_20 ?_
      simp only [wp_cons, wp_nil, List.getElem?_cons_zero, List.getElem?_cons_succ, List.set_cons_zero, List.set_cons_succ, s_ifCond_eq, p1_s, true_and, and_true, Nat.le_refl, true_implies, forall_const, not_false_eq_true, false_implies, not_true_eq_false, reduceCtorEq, tl_s, tl_n, rf_s, List.cons_append, List.nil_append, true_or, or_true, hm.c]
      refine B_Model_point_32 ?_
      simp only [wp_cons, wp_nil, List.getElem?_cons_zero, List.getElem?_cons_succ, List.set_cons_zero, List.set_cons_succ, s_iconst, true_and, and_true, Nat.le_refl, true_implies, forall_const, not_false_eq_true, false_implies, not_true_eq_false, reduceCtorEq, tl_s, tl_n, rf_s, List.cons_append, List.nil_append, true_or, or_true, hm.c]
      refine B_Model_point_33 ?_
      simp only [wp_cons, wp_nil, List.getElem?_cons_zero, List.getElem?_cons_succ, List.set_cons_zero, List.set_cons_succ, s_ireturn, p1_s, rI_i, rI_z, rI_c, z_01, z_11, rt_Model_point, true_and, and_true, Nat.le_refl, true_implies, forall_const, not_false_eq_true, false_implies, not_true_eq_false, reduceCtorEq, tl_s, tl_n, rf_s, List.cons_append, List.nil_append, true_or, or_true, hm.c]
      exact hQ h chg.rf hp
  · rw [if_pos (fun q => c1 q.1)] at hQ
    refine B_Model_point_5 ?_
    simp only [wp_cons, wp_nil, List.getElem?_cons_zero, List.getElem?_cons_succ, List.set_cons_zero, List.set_cons_succ, s_ifCond_eq, p1_s, true_and, and_true, Nat.le_refl, true_implies, forall_const, not_false_eq_true, false_implies, not_true_eq_false, reduceCtorEq, tl_s, tl_n, rf_s, List.cons_append, List.nil_append, true_or, or_true, hm.c]
    refine B_Model_point_32 ?_
    simp only [wp_cons, wp_nil, List.getElem?_cons_zero, List.getElem?_cons_succ, List.set_cons_zero, List.set_cons_succ, s_iconst, true_and, and_true, Nat.le_refl, true_implies, forall_const, not_false_eq_true, false_implies, not_true_eq_false, reduceCtorEq, tl_s, tl_n, rf_s, List.cons_append, List.nil_append, true_or, or_true, hm.c]
    refine B_Model_point_33 ?_
    simp only [wp_cons, wp_nil, List.getElem?_cons_zero, List.getElem?_cons_succ, List.set_cons_zero, List.set_cons_succ, s_ireturn, p1_s, rI_i, rI_z, rI_c, z_01, z_11, rt_Model_point, true_and, and_true, Nat.le_refl, true_implies, forall_const, not_false_eq_true, false_implies, not_true_eq_false, reduceCtorEq, tl_s, tl_n, rf_s, List.cons_append, List.nil_append, true_or, or_true, hm.c]
    exact hQ h chg.rf hp
theorem Mdl_cross_c {d M : Nat} (hd : 9 ≤ d) {W : Wd} {a b : Int} {h : g_H} {Q : g_Po} (w : wfW W) (hp : mrep h M W) (ha : i32 a) (hb : i32 b) (hQ : MQ9 M h Q (sp_cross W a b)) : Call Model_crossings d 0 0 [.ref M, .int (I a), .int (I b)] h Q := by
  have d1 : 1 ≤ d := by omega
  obtain ⟨⟨Ss, pn⟩, Hs, T, l⟩ := W
  obtain ⟨r, A, hm, ht⟩ := id hp
  have wl := w.g.1.l
  have w0 := wl.1
  unfold sp_cross at hQ
  dsimp only at hQ
  refine Call.intro (by rfl) (Nat.le_of_ble_eq_true rfl) ?_
  refine G.eqL (L := [some (.ref _), some (.int _), some (.int _)]) rfl ?_
  refine B_Model_crossings_0 ?_
  simp only [wp_cons, wp_nil, List.getElem?_cons_zero, List.getElem?_cons_succ, List.set_cons_zero, List.set_cons_succ, s_aload_n0, ldA_r, ldA_n, s_iload_n1, ldI_s, s_invokevirtual, rc_s, ob_s, List.drop_succ_cons, List.drop_zero, List.take_succ_cons, List.take_zero, List.reverse_cons, List.reverse_nil, List.nil_append, List.cons_append, List.length_cons, List.length_nil, d1, Int.reduceToNat, Nat.reduceAdd, Nat.reduceLeDiff, true_and, and_true, Nat.le_refl, true_implies, forall_const, not_false_eq_true, false_implies, not_true_eq_false, reduceCtorEq, tl_s, tl_n, rf_s, true_or, or_true, hm.c]
  refine Mdl_isS2_c (by omega) hm ht.1 wl ha (fun c1 => ?_) (fun c1 => ?_)
  · refine B_Model_crossings_5 ?_
    simp only [wp_cons, wp_nil, List.getElem?_cons_zero, List.getElem?_cons_succ, List.set_cons_zero, List.set_cons_succ, s_ifCond_eq, p1_s, true_and, and_true, Nat.le_refl, true_implies, forall_const, not_false_eq_true, false_implies, not_true_eq_false, reduceCtorEq, tl_s, tl_n, rf_s, List.cons_append, List.nil_append, true_or, or_true, hm.c]
    refine b_eq (by omega) (by omega) (fun cc => absurd cc (by omega)) (fun cc => ?_)
    refine B_Model_crossings_8 ?_
    simp only [wp_cons, wp_nil, List.getElem?_cons_zero, List.getElem?_cons_succ, List.set_cons_zero, List.set_cons_succ, s_aload_n0, ldA_r, ldA_n, s_iload_n2, ldI_s, s_invokevirtual, rc_s, ob_s, List.drop_succ_cons, List.drop_zero, List.take_succ_cons, List.take_zero, List.reverse_cons, List.reverse_nil, List.nil_append, List.cons_append, List.length_cons, List.length_nil, d1, Int.reduceToNat, Nat.reduceAdd, Nat.reduceLeDiff, true_and, and_true, Nat.le_refl, true_implies, forall_const, not_false_eq_true, false_implies, not_true_eq_false, reduceCtorEq, tl_s, tl_n, rf_s, true_or, or_true, hm.c]
    refine Mdl_isS2_c (by omega) hm ht.1 wl hb (fun c2 => ?_) (fun c2 => ?_)
    · rw [if_neg (fun q => q ⟨c1, c2⟩)] at hQ
      obtain ⟨i, rfl, hi⟩ := nat_of c1
      obtain ⟨j, rfl, hj⟩ := nat_of c2
      rw [tn_i, tn_i] at hQ
      replace hi : i < Ss.length := hi
      replace hj : j < Ss.length := hj
      by_cases c3 : (i : Int) = j
      · rw [if_pos c3] at hQ
        refine B_Model_crossings_13 ?_
        simp only [wp_cons, wp_nil, List.getElem?_cons_zero, List.getElem?_cons_succ, List.set_cons_zero, List.set_cons_succ, s_ifCond_ne, p1_s, true_and, and_true, Nat.le_refl, true_implies, forall_const, not_false_eq_true, false_implies, not_true_eq_false, reduceCtorEq, tl_s, tl_n, rf_s, List.cons_append, List.nil_append, true_or, or_true, hm.c]
        refine b_ne (by omega) (by omega) (fun cc => ?_) (fun cc => absurd cc (by omega))
        refine B_Model_crossings_18 ?_
        simp only [wp_cons, wp_nil, List.getElem?_cons_zero, List.getElem?_cons_succ, List.set_cons_zero, List.set_cons_succ, s_iload_n1, ldI_s, s_iload_n2, s_if_icmp_ne, p2_s, true_and, and_true, Nat.le_refl, true_implies, forall_const, not_false_eq_true, false_implies, not_true_eq_false, reduceCtorEq, tl_s, tl_n, rf_s, List.cons_append, List.nil_append, true_or, or_true, hm.c]
        refine b_ne (by omega) (by omega) (fun cc => absurd cc (by omega)) (fun cc => ?_)
        refine B_Model_crossings_23 ?_
        simp only [wp_cons, wp_nil, List.getElem?_cons_zero, List.getElem?_cons_succ, List.set_cons_zero, List.set_cons_succ, s_bipush, s_goto, true_and, and_true, Nat.le_refl, true_implies, forall_const, not_false_eq_true, false_implies, not_true_eq_false, reduceCtorEq, tl_s, tl_n, rf_s, List.cons_append, List.nil_append, true_or, or_true, hm.c]
        refine B_Model_crossings_34 ?_
        simp only [wp_cons, wp_nil, List.getElem?_cons_zero, List.getElem?_cons_succ, List.set_cons_zero, List.set_cons_succ, s_ireturn, p1_s, rI_i, rI_z, rI_c, z_01, z_11, rt_Model_crossings, true_and, and_true, Nat.le_refl, true_implies, forall_const, not_false_eq_true, false_implies, not_true_eq_false, reduceCtorEq, tl_s, tl_n, rf_s, List.cons_append, List.nil_append, true_or, or_true, hm.c]
        exact hQ h chg.rf hp
      · rw [if_neg c3] at hQ
        refine B_Model_crossings_13 ?_
        simp only [wp_cons, wp_nil, List.getElem?_cons_zero, List.getElem?_cons_succ, List.set_cons_zero, List.set_cons_succ, s_ifCond_ne, p1_s, true_and, and_true, Nat.le_refl, true_implies, forall_const, not_false_eq_true, false_implies, not_true_eq_false, reduceCtorEq, tl_s, tl_n, rf_s, List.cons_append, List.nil_append, true_or, or_true, hm.c]
        refine b_ne (by omega) (by omega) (fun cc => ?_) (fun cc => absurd cc (by omega))
        refine B_Model_crossings_18 ?_
        simp only [wp_cons, wp_nil, List.getElem?_cons_zero, List.getElem?_cons_succ, List.set_cons_zero, List.set_cons_succ, s_iload_n1, ldI_s, s_iload_n2, s_if_icmp_ne, p2_s, true_and, and_true, Nat.le_refl, true_implies, forall_const, not_false_eq_true, false_implies, not_true_eq_false, reduceCtorEq, tl_s, tl_n, rf_s, List.cons_append, List.nil_append, true_or, or_true, hm.c]
        refine b_ne (by omega) (by omega) (fun cc => ?_) (fun cc => absurd cc (by omega))
        refine B_Model_crossings_28 ?_
        simp only [wp_cons, wp_nil, List.getElem?_cons_zero, List.getElem?_cons_succ, List.set_cons_zero, List.set_cons_succ, s_aload_n0, ldA_r, ldA_n, s_iload_n1, ldI_s, s_iload_n2, s_invokevirtual, rc_s, ob_s, List.drop_succ_cons, List.drop_zero, List.take_succ_cons, List.take_zero, List.reverse_cons, List.reverse_nil, List.nil_append, List.cons_append, List.length_cons, List.length_nil, d1, Int.reduceToNat, Nat.reduceAdd, Nat.reduceLeDiff, true_and, and_true, Nat.le_refl, true_implies, forall_const, not_false_eq_true, false_implies, not_true_eq_false, reduceCtorEq, tl_s, tl_n, rf_s, true_or, or_true, hm.c]
        refine Mdl_cx2_c (by omega) hm ht.1 wl hi hj ?_
        refine B_Model_crossings_34 ?_
        simp only [wp_cons, wp_nil, List.getElem?_cons_zero, List.getElem?_cons_succ, List.set_cons_zero, List.set_cons_succ, s_ireturn, p1_s, rI_i, rI_z, rI_c, z_01, z_11, rt_Model_crossings, true_and, and_true, Nat.le_refl, true_implies, forall_const, not_false_eq_true, false_implies, not_true_eq_false, reduceCtorEq, tl_s, tl_n, rf_s, List.cons_append, List.nil_append, true_or, or_true, hm.c]
        exact hQ h chg.rf hp
    · rw [if_pos (fun q => c2 q.2)] at hQ
      refine B_Model_crossings_13 ?_
      simp only [wp_cons, wp_nil, List.getElem?_cons_zero, List.getElem?_cons_succ, List.set_cons_zero, List.set_cons_succ, s_ifCond_ne, p1_s, true_and, and_true, Nat.le_refl, true_implies, forall_const, not_false_eq_true, false_implies, not_true_eq_false, reduceCtorEq, tl_s, tl_n, rf_s, List.cons_append, List.nil_append, true_or, or_true, hm.c]
      refine B_Model_crossings_16 ?_
      simp only [wp_cons, wp_nil, List.getElem?_cons_zero, List.getElem?_cons_succ, List.set_cons_zero, List.set_cons_succ, s_iconst, s_ireturn, p1_s, rI_i, rI_z, rI_c, z_01, z_11, rt_Model_crossings, true_and, and_true, Nat.le_refl, true_implies, forall_const, not_false_eq_true, false_implies, not_true_eq_false, reduceCtorEq, tl_s, tl_n, rf_s, List.cons_append, List.nil_append, true_or, or_true, hm.c]
      exact hQ h chg.rf hp
  · rw [if_pos (fun q => c1 q.1)] at hQ
    refine B_Model_crossings_5 ?_
    simp only [wp_cons, wp_nil, List.getElem?_cons_zero, List.getElem?_cons_succ, List.set_cons_zero, List.set_cons_succ, s_ifCond_eq, p1_s, true_and, and_true, Nat.le_refl, true_implies, forall_const, not_false_eq_true, false_implies, not_true_eq_false, reduceCtorEq, tl_s, tl_n, rf_s, List.cons_append, List.nil_append, true_or, or_true, hm.c]
    refine B_Model_crossings_16 ?_
    simp only [wp_cons, wp_nil, List.getElem?_cons_zero, List.getElem?_cons_succ, List.set_cons_zero, List.set_cons_succ, s_iconst, s_ireturn, p1_s, rI_i, rI_z, rI_c, z_01, z_11, rt_Model_crossings, true_and, and_true, Nat.le_refl, true_implies, forall_const, not_false_eq_true, false_implies, not_true_eq_false, reduceCtorEq, tl_s, tl_n, rf_s, List.cons_append, List.nil_append, true_or, or_true, hm.c]
    exact hQ h chg.rf hp
theorem Mdl_near_c {d M : Nat} (hd : 9 ≤ d) {W : Wd} {x y : Int} {h : g_H} {Q : g_Po} (w : wfW W) (hp : mrep h M W) (hx : i32 x) (hy : i32 y) (hQ : MQ9 M h Q (sp_near W x y)) : Call Model_nearest d 0 0 [.ref M, .int (I x), .int (I y)] h Q := by
  have d1 : 1 ≤ d := by omega
  obtain ⟨⟨Ss, pn⟩, Hs, T, l⟩ := W
  obtain ⟨r, A, hm, ht⟩ := id hp
  have a1 : A 1 0 = Ss.length := ht.1.1
  have wl := w.g.1.l
  have wD := w.g.1
  have w0 := wl.1
  have k0 := ex_ie (x := 0) (i := 0) (n := 352) rfl (by omega)
  unfold sp_near at hQ
  dsimp only at hQ
  refine Call.intro (by rfl) (Nat.le_of_ble_eq_true rfl) ?_
  refine G.eqL (L := [some (.ref _), some (.int _), some (.int _), none, none, none, none, none]) rfl ?_
  refine B_Model_nearest_0 ?_
  simp only [wp_cons, wp_nil, List.getElem?_cons_zero, List.getElem?_cons_succ, List.set_cons_zero, List.set_cons_succ, s_iload_n1, ldI_s, s_iload_n2, s_invokestatic, rc_s, ob_s, List.drop_succ_cons, List.drop_zero, List.take_succ_cons, List.take_zero, List.reverse_cons, List.reverse_nil, List.nil_append, List.cons_append, List.length_cons, List.length_nil, Nat.reduceEqDiff, reduceIte, p1_s, p2_s, l1_s, d1, Int.reduceToNat, Nat.reduceAdd, Nat.reduceLeDiff, true_and, and_true, Nat.le_refl, true_implies, forall_const, not_false_eq_true, false_implies, not_true_eq_false, reduceCtorEq, tl_s, tl_n, rf_s, true_or, or_true, hm.c, hm.g1, a1, k0, ex_ie]
  refine Mdl_isPl_c (by omega) hx hy (fun c1 => ?_) (fun c1 => ?_)
  · rw [if_neg (fun q => q c1)] at hQ
    have hpt := pt_of c1
    have inner : ∀ (i : Nat), i < Ss.length → (∀ (x6 x7 : Option Value), G Model_nearest d 0 0 0 0 20 [some (.ref M), some (.int (I x)), some (.int (I y)), some (.int (I (nra (1000 * x + y) Ss (i + 1)).1)), some (.int (I (nra (1000 * x + y) Ss (i + 1)).2)), some (.int (I ((i + 1 : Nat) : Int))), x6, x7] [] h Q) → ∀ (m k : Nat) (x7 : Option Value), k + m = (sg Ss i).1.length → G Model_nearest d 0 0 0 0 34 [some (.ref M), some (.int (I x)), some (.int (I y)), some (.int (I (nrb (1000 * x + y) i (pg (sg Ss i).1) k (nra (1000 * x + y) Ss i)).1)), some (.int (I (nrb (1000 * x + y) i (pg (sg Ss i).1) k (nra (1000 * x + y) Ss i)).2)), some (.int (I (i : Int))), some (.int (I (k : Int))), x7] [] h Q := by
      intro i hi hO m
      have hw := wD.2 i hi
      have hn2 := hw.2.1
      have r0 := nra_bd hpt wD i (by omega)
      induction m with
      | zero =>
        intro k x7 hk
        obtain rfl : k = (sg Ss i).1.length := by omega
        refine B_Model_nearest_34 ?_
        simp only [wp_cons, wp_nil, List.getElem?_cons_zero, List.getElem?_cons_succ, List.set_cons_zero, List.set_cons_succ, s_iload, ldI_s, s_aload_n0, ldA_r, ldA_n, s_invokevirtual, rc_s, ob_s, List.drop_succ_cons, List.drop_zero, List.take_succ_cons, List.take_zero, List.reverse_cons, List.reverse_nil, List.nil_append, List.cons_append, List.length_cons, List.length_nil, d1, Int.reduceToNat, Nat.reduceAdd, Nat.reduceLeDiff, true_and, and_true, Nat.le_refl, true_implies, forall_const, not_false_eq_true, false_implies, not_true_eq_false, reduceCtorEq, tl_s, tl_n, rf_s, true_or, or_true, hm.c, hm.g1, a1, k0, ex_ie]
        refine Mdl_len_c (by omega) hm ht.1 wl hi ?_
        refine B_Model_nearest_42 ?_
        simp only [wp_cons, wp_nil, List.getElem?_cons_zero, List.getElem?_cons_succ, List.set_cons_zero, List.set_cons_succ, s_if_icmp_ge, p2_s, true_and, and_true, Nat.le_refl, true_implies, forall_const, not_false_eq_true, false_implies, not_true_eq_false, reduceCtorEq, tl_s, tl_n, rf_s, List.cons_append, List.nil_append, true_or, or_true, hm.c, hm.g1, a1, k0, ex_ie]
        refine b_le (by omega) (by omega) (fun cc => ?_) (fun cc => absurd cc (by omega))
        refine B_Model_nearest_95 ?_
        simp only [wp_cons, wp_nil, List.getElem?_cons_zero, List.getElem?_cons_succ, List.set_cons_zero, List.set_cons_succ, s_iinc, ldI_s, s1_0, s1_s, kx_i, kx_r, kx_n, kx_l, kx_0, I_add, s_goto, true_and, and_true, Nat.le_refl, true_implies, forall_const, not_false_eq_true, false_implies, not_true_eq_false, reduceCtorEq, tl_s, tl_n, rf_s, List.cons_append, List.nil_append, true_or, or_true, hm.c, hm.g1, a1, k0, ex_ie]
        exact hO _ _
      | succ m ih =>
        intro k x7 hk
        have b1 := hw.2.2.1 k (by omega)
        have b2 := sqd_bd hpt b1
        have r1 := nrb_bd hpt (c := i) (by omega) (f := pg (sg Ss i).1) r0 k (by omega) (fun j hj => hw.2.2.1 j (by omega))
        have e1 : nrb (1000 * x + y) i (pg (sg Ss i).1) (k + 1) (nra (1000 * x + y) Ss i) = if (nrb (1000 * x + y) i (pg (sg Ss i).1) k (nra (1000 * x + y) Ss i)).1 = -6 ∨ sqd (1000 * x + y) (pg (sg Ss i).1 k) < (nrb (1000 * x + y) i (pg (sg Ss i).1) k (nra (1000 * x + y) Ss i)).2 then (100 * (i : Int) + k, sqd (1000 * x + y) (pg (sg Ss i).1 k)) else nrb (1000 * x + y) i (pg (sg Ss i).1) k (nra (1000 * x + y) Ss i) := rfl
        have ih2 := fun x7 => ih (k + 1) x7 (by omega)
        rw [e1] at ih2
        refine B_Model_nearest_34 ?_
        simp only [wp_cons, wp_nil, List.getElem?_cons_zero, List.getElem?_cons_succ, List.set_cons_zero, List.set_cons_succ, s_iload, ldI_s, s_aload_n0, ldA_r, ldA_n, s_invokevirtual, rc_s, ob_s, List.drop_succ_cons, List.drop_zero, List.take_succ_cons, List.take_zero, List.reverse_cons, List.reverse_nil, List.nil_append, List.cons_append, List.length_cons, List.length_nil, d1, Int.reduceToNat, Nat.reduceAdd, Nat.reduceLeDiff, true_and, and_true, Nat.le_refl, true_implies, forall_const, not_false_eq_true, false_implies, not_true_eq_false, reduceCtorEq, tl_s, tl_n, rf_s, true_or, or_true, hm.c, hm.g1, a1, k0, ex_ie]
        refine Mdl_len_c (by omega) hm ht.1 wl hi ?_
        refine B_Model_nearest_42 ?_
        simp only [wp_cons, wp_nil, List.getElem?_cons_zero, List.getElem?_cons_succ, List.set_cons_zero, List.set_cons_succ, s_if_icmp_ge, p2_s, true_and, and_true, Nat.le_refl, true_implies, forall_const, not_false_eq_true, false_implies, not_true_eq_false, reduceCtorEq, tl_s, tl_n, rf_s, List.cons_append, List.nil_append, true_or, or_true, hm.c, hm.g1, a1, k0, ex_ie]
        refine b_le (by omega) (by omega) (fun cc => absurd cc (by omega)) (fun cc => ?_)
        refine B_Model_nearest_45 ?_
        simp only [wp_cons, wp_nil, List.getElem?_cons_zero, List.getElem?_cons_succ, List.set_cons_zero, List.set_cons_succ, s_iload_n1, ldI_s, s_iload_n2, s_invokestatic, rc_s, ob_s, List.drop_succ_cons, List.drop_zero, List.take_succ_cons, List.take_zero, List.reverse_cons, List.reverse_nil, List.nil_append, List.cons_append, List.length_cons, List.length_nil, Nat.reduceEqDiff, reduceIte, p1_s, p2_s, l1_s, d1, Int.reduceToNat, Nat.reduceAdd, Nat.reduceLeDiff, true_and, and_true, Nat.le_refl, true_implies, forall_const, not_false_eq_true, false_implies, not_true_eq_false, reduceCtorEq, tl_s, tl_n, rf_s, true_or, or_true, hm.c, hm.g1, a1, k0, ex_ie]
        refine Mdl_pt_c ?_
        refine B_Model_nearest_50 ?_
        simp only [wp_cons, wp_nil, List.getElem?_cons_zero, List.getElem?_cons_succ, List.set_cons_zero, List.set_cons_succ, s_aload_n0, ldA_r, ldA_n, s_iload, ldI_s, s_invokevirtual, rc_s, ob_s, List.drop_succ_cons, List.drop_zero, List.take_succ_cons, List.take_zero, List.reverse_cons, List.reverse_nil, List.nil_append, List.cons_append, List.length_cons, List.length_nil, d1, Int.reduceToNat, Nat.reduceAdd, Nat.reduceLeDiff, true_and, and_true, Nat.le_refl, true_implies, forall_const, not_false_eq_true, false_implies, not_true_eq_false, reduceCtorEq, tl_s, tl_n, rf_s, true_or, or_true, hm.c, hm.g1, a1, k0, ex_ie]
        refine Mdl_pAt_c (by omega) hm ht.1 wl hi (show k < (sg Ss i).1.length by omega) ?_
        refine B_Model_nearest_58 ?_
        simp only [wp_cons, wp_nil, List.getElem?_cons_zero, List.getElem?_cons_succ, List.set_cons_zero, List.set_cons_succ, s_invokestatic, rc_s, ob_s, List.drop_succ_cons, List.drop_zero, List.take_succ_cons, List.take_zero, List.reverse_cons, List.reverse_nil, List.nil_append, List.cons_append, List.length_cons, List.length_nil, Nat.reduceEqDiff, reduceIte, p1_s, p2_s, l1_s, d1, Int.reduceToNat, Nat.reduceAdd, Nat.reduceLeDiff, true_and, and_true, Nat.le_refl, true_implies, forall_const, not_false_eq_true, false_implies, not_true_eq_false, reduceCtorEq, tl_s, tl_n, rf_s, true_or, or_true, hm.c, hm.g1, a1, k0, ex_ie]
        refine Mdl_sqd_c (by omega) hpt b1 ?_
        by_cases c3 : (nrb (1000 * x + y) i (pg (sg Ss i).1) k (nra (1000 * x + y) Ss i)).1 = -6
        · rw [if_pos (Or.inl c3)] at ih2
          refine B_Model_nearest_61 ?_
          simp only [wp_cons, wp_nil, List.getElem?_cons_zero, List.getElem?_cons_succ, List.set_cons_zero, List.set_cons_succ, s_istore, p1_s, s1_0, s1_s, kx_i, kx_r, kx_n, kx_l, kx_0, s_iload_n3, ldI_s, s_bipush, s_if_icmp_eq, p2_s, true_and, and_true, Nat.le_refl, true_implies, forall_const, not_false_eq_true, false_implies, not_true_eq_false, reduceCtorEq, tl_s, tl_n, rf_s, List.cons_append, List.nil_append, true_or, or_true, hm.c, hm.g1, a1, k0, ex_ie]
          refine b_eq (by omega) (by omega) (fun cc => ?_) (fun cc => absurd cc (by omega))
          refine B_Model_nearest_76 ?_
          simp only [wp_cons, wp_nil, List.getElem?_cons_zero, List.getElem?_cons_succ, List.set_cons_zero, List.set_cons_succ, s_bipush, s_iload, ldI_s, s_imul, p2_s, I_mul, s_iadd, I_add, s_istore_n3, p1_s, s1_0, s1_s, kx_i, kx_r, kx_n, kx_l, kx_0, s_istore, true_and, and_true, Nat.le_refl, true_implies, forall_const, not_false_eq_true, false_implies, not_true_eq_false, reduceCtorEq, tl_s, tl_n, rf_s, List.cons_append, List.nil_append, true_or, or_true, hm.c, hm.g1, a1, k0, ex_ie]
          refine B_Model_nearest_89 ?_
          simp only [wp_cons, wp_nil, List.getElem?_cons_zero, List.getElem?_cons_succ, List.set_cons_zero, List.set_cons_succ, s_iinc, ldI_s, s1_0, s1_s, kx_i, kx_r, kx_n, kx_l, kx_0, I_add, s_goto, true_and, and_true, Nat.le_refl, true_implies, forall_const, not_false_eq_true, false_implies, not_true_eq_false, reduceCtorEq, tl_s, tl_n, rf_s, List.cons_append, List.nil_append, true_or, or_true, hm.c, hm.g1, a1, k0, ex_ie]
          exact ih2 _
        · by_cases c4 : sqd (1000 * x + y) (pg (sg Ss i).1 k) < (nrb (1000 * x + y) i (pg (sg Ss i).1) k (nra (1000 * x + y) Ss i)).2
          · rw [if_pos (Or.inr c4)] at ih2
            refine B_Model_nearest_61 ?_
            simp only [wp_cons, wp_nil, List.getElem?_cons_zero, List.getElem?_cons_succ, List.set_cons_zero, List.set_cons_succ, s_istore, p1_s, s1_0, s1_s, kx_i, kx_r, kx_n, kx_l, kx_0, s_iload_n3, ldI_s, s_bipush, s_if_icmp_eq, p2_s, true_and, and_true, Nat.le_refl, true_implies, forall_const, not_false_eq_true, false_implies, not_true_eq_false, reduceCtorEq, tl_s, tl_n, rf_s, List.cons_append, List.nil_append, true_or, or_true, hm.c, hm.g1, a1, k0, ex_ie]
            refine b_eq (by omega) (by omega) (fun cc => absurd cc (by omega)) (fun cc => ?_)
            refine B_Model_nearest_69 ?_
            simp only [wp_cons, wp_nil, List.getElem?_cons_zero, List.getElem?_cons_succ, List.set_cons_zero, List.set_cons_succ, s_iload, ldI_s, s_if_icmp_ge, p2_s, true_and, and_true, Nat.le_refl, true_implies, forall_const, not_false_eq_true, false_implies, not_true_eq_false, reduceCtorEq, tl_s, tl_n, rf_s, List.cons_append, List.nil_append, true_or, or_true, hm.c, hm.g1, a1, k0, ex_ie]
            refine b_le (by omega) (by omega) (fun cc => absurd cc (by omega)) (fun cc => ?_)
            refine B_Model_nearest_76 ?_
            simp only [wp_cons, wp_nil, List.getElem?_cons_zero, List.getElem?_cons_succ, List.set_cons_zero, List.set_cons_succ, s_bipush, s_iload, ldI_s, s_imul, p2_s, I_mul, s_iadd, I_add, s_istore_n3, p1_s, s1_0, s1_s, kx_i, kx_r, kx_n, kx_l, kx_0, s_istore, true_and, and_true, Nat.le_refl, true_implies, forall_const, not_false_eq_true, false_implies, not_true_eq_false, reduceCtorEq, tl_s, tl_n, rf_s, List.cons_append, List.nil_append, true_or, or_true, hm.c, hm.g1, a1, k0, ex_ie]
            refine B_Model_nearest_89 ?_
            simp only [wp_cons, wp_nil, List.getElem?_cons_zero, List.getElem?_cons_succ, List.set_cons_zero, List.set_cons_succ, s_iinc, ldI_s, s1_0, s1_s, kx_i, kx_r, kx_n, kx_l, kx_0, I_add, s_goto, true_and, and_true, Nat.le_refl, true_implies, forall_const, not_false_eq_true, false_implies, not_true_eq_false, reduceCtorEq, tl_s, tl_n, rf_s, List.cons_append, List.nil_append, true_or, or_true, hm.c, hm.g1, a1, k0, ex_ie]
            exact ih2 _
          · rw [if_neg (fun q => q.elim c3 c4)] at ih2
            refine B_Model_nearest_61 ?_
            simp only [wp_cons, wp_nil, List.getElem?_cons_zero, List.getElem?_cons_succ, List.set_cons_zero, List.set_cons_succ, s_istore, p1_s, s1_0, s1_s, kx_i, kx_r, kx_n, kx_l, kx_0, s_iload_n3, ldI_s, s_bipush, s_if_icmp_eq, p2_s, true_and, and_true, Nat.le_refl, true_implies, forall_const, not_false_eq_true, false_implies, not_true_eq_false, reduceCtorEq, tl_s, tl_n, rf_s, List.cons_append, List.nil_append, true_or, or_true, hm.c, hm.g1, a1, k0, ex_ie]
            refine b_eq (by omega) (by omega) (fun cc => absurd cc (by omega)) (fun cc => ?_)
            refine B_Model_nearest_69 ?_
            simp only [wp_cons, wp_nil, List.getElem?_cons_zero, List.getElem?_cons_succ, List.set_cons_zero, List.set_cons_succ, s_iload, ldI_s, s_if_icmp_ge, p2_s, true_and, and_true, Nat.le_refl, true_implies, forall_const, not_false_eq_true, false_implies, not_true_eq_false, reduceCtorEq, tl_s, tl_n, rf_s, List.cons_append, List.nil_append, true_or, or_true, hm.c, hm.g1, a1, k0, ex_ie]
            refine b_le (by omega) (by omega) (fun cc => ?_) (fun cc => absurd cc (by omega))
            refine B_Model_nearest_89 ?_
            simp only [wp_cons, wp_nil, List.getElem?_cons_zero, List.getElem?_cons_succ, List.set_cons_zero, List.set_cons_succ, s_iinc, ldI_s, s1_0, s1_s, kx_i, kx_r, kx_n, kx_l, kx_0, I_add, s_goto, true_and, and_true, Nat.le_refl, true_implies, forall_const, not_false_eq_true, false_implies, not_true_eq_false, reduceCtorEq, tl_s, tl_n, rf_s, List.cons_append, List.nil_append, true_or, or_true, hm.c, hm.g1, a1, k0, ex_ie]
            exact ih2 _
    have outer : ∀ (m i : Nat) (x6 x7 : Option Value), i + m = Ss.length → G Model_nearest d 0 0 0 0 20 [some (.ref M), some (.int (I x)), some (.int (I y)), some (.int (I (nra (1000 * x + y) Ss i).1)), some (.int (I (nra (1000 * x + y) Ss i).2)), some (.int (I (i : Int))), x6, x7] [] h Q := by
      intro m
      induction m with
      | zero =>
        intro i x6 x7 hi
        obtain rfl : i = Ss.length := by omega
        refine B_Model_nearest_20 ?_
        simp only [wp_cons, wp_nil, List.getElem?_cons_zero, List.getElem?_cons_succ, List.set_cons_zero, List.set_cons_succ, s_iload, ldI_s, s_aload_n0, ldA_r, ldA_n, s_getfield, pR_s, ob_s, gt_s, s_iconst, s_iaload, iR_s, ia_s, s_if_icmp_ge, p2_s, true_and, and_true, Nat.le_refl, true_implies, forall_const, not_false_eq_true, false_implies, not_true_eq_false, reduceCtorEq, tl_s, tl_n, rf_s, List.cons_append, List.nil_append, true_or, or_true, hm.c, hm.g1, a1, k0, ex_ie]
        refine b_le (by omega) (by omega) (fun cc => ?_) (fun cc => absurd cc (by omega))
        refine B_Model_nearest_101 ?_
        simp only [wp_cons, wp_nil, List.getElem?_cons_zero, List.getElem?_cons_succ, List.set_cons_zero, List.set_cons_succ, s_iload_n3, ldI_s, s_ireturn, p1_s, rI_i, rI_z, rI_c, z_01, z_11, rt_Model_nearest, true_and, and_true, Nat.le_refl, true_implies, forall_const, not_false_eq_true, false_implies, not_true_eq_false, reduceCtorEq, tl_s, tl_n, rf_s, List.cons_append, List.nil_append, true_or, or_true, hm.c, hm.g1, a1, k0, ex_ie]
        exact hQ h chg.rf hp
      | succ m ih =>
        intro i x6 x7 hi
        refine B_Model_nearest_20 ?_
        simp only [wp_cons, wp_nil, List.getElem?_cons_zero, List.getElem?_cons_succ, List.set_cons_zero, List.set_cons_succ, s_iload, ldI_s, s_aload_n0, ldA_r, ldA_n, s_getfield, pR_s, ob_s, gt_s, s_iconst, s_iaload, iR_s, ia_s, s_if_icmp_ge, p2_s, true_and, and_true, Nat.le_refl, true_implies, forall_const, not_false_eq_true, false_implies, not_true_eq_false, reduceCtorEq, tl_s, tl_n, rf_s, List.cons_append, List.nil_append, true_or, or_true, hm.c, hm.g1, a1, k0, ex_ie]
        refine b_le (by omega) (by omega) (fun cc => absurd cc (by omega)) (fun cc => ?_)
        refine B_Model_nearest_31 ?_
        simp only [wp_cons, wp_nil, List.getElem?_cons_zero, List.getElem?_cons_succ, List.set_cons_zero, List.set_cons_succ, s_iconst, s_istore, p1_s, s1_0, s1_s, kx_i, kx_r, kx_n, kx_l, kx_0, true_and, and_true, Nat.le_refl, true_implies, forall_const, not_false_eq_true, false_implies, not_true_eq_false, reduceCtorEq, tl_s, tl_n, rf_s, List.cons_append, List.nil_append, true_or, or_true, hm.c, hm.g1, a1, k0, ex_ie]
        exact inner i (by omega) (fun x6 x7 => ih (i + 1) _ _ (by omega)) (sg Ss i).1.length 0 _ (by omega)
    refine B_Model_nearest_5 ?_
    simp only [wp_cons, wp_nil, List.getElem?_cons_zero, List.getElem?_cons_succ, List.set_cons_zero, List.set_cons_succ, s_ifCond_ne, p1_s, true_and, and_true, Nat.le_refl, true_implies, forall_const, not_false_eq_true, false_implies, not_true_eq_false, reduceCtorEq, tl_s, tl_n, rf_s, List.cons_append, List.nil_append, true_or, or_true, hm.c, hm.g1, a1, k0, ex_ie]
    refine b_ne (by omega) (by omega) (fun cc => ?_) (fun cc => absurd cc (by omega))
    refine B_Model_nearest_11 ?_
    simp only [wp_cons, wp_nil, List.getElem?_cons_zero, List.getElem?_cons_succ, List.set_cons_zero, List.set_cons_succ, s_bipush, s_istore_n3, p1_s, s1_0, s1_s, kx_i, kx_r, kx_n, kx_l, kx_0, s_iconst, s_istore, true_and, and_true, Nat.le_refl, true_implies, forall_const, not_false_eq_true, false_implies, not_true_eq_false, reduceCtorEq, tl_s, tl_n, rf_s, List.cons_append, List.nil_append, true_or, or_true, hm.c, hm.g1, a1, k0, ex_ie]
    exact outer Ss.length 0 _ _ (by omega)
  · rw [if_pos c1] at hQ
    refine B_Model_nearest_5 ?_
    simp only [wp_cons, wp_nil, List.getElem?_cons_zero, List.getElem?_cons_succ, List.set_cons_zero, List.set_cons_succ, s_ifCond_ne, p1_s, true_and, and_true, Nat.le_refl, true_implies, forall_const, not_false_eq_true, false_implies, not_true_eq_false, reduceCtorEq, tl_s, tl_n, rf_s, List.cons_append, List.nil_append, true_or, or_true, hm.c, hm.g1, a1, k0, ex_ie]
    refine B_Model_nearest_8 ?_
    simp only [wp_cons, wp_nil, List.getElem?_cons_zero, List.getElem?_cons_succ, List.set_cons_zero, List.set_cons_succ, s_bipush, s_ireturn, p1_s, rI_i, rI_z, rI_c, z_01, z_11, rt_Model_nearest, true_and, and_true, Nat.le_refl, true_implies, forall_const, not_false_eq_true, false_implies, not_true_eq_false, reduceCtorEq, tl_s, tl_n, rf_s, List.cons_append, List.nil_append, true_or, or_true, hm.c, hm.g1, a1, k0, ex_ie]
    exact hQ h chg.rf hp
theorem Mdl_ins_c {d M : Nat} (hd : 9 ≤ d) {W : Wd} {s x y : Int} {h : g_H} {Q : g_Po} (w : wfW W) (hp : mrep h M W) (hs : i32 s) (hx : i32 x) (hy : i32 y) (hQ : MQ9 M h Q (sp_ins W s x y)) : Call Model_isInside d 0 0 [.ref M, .int (I s), .int (I x), .int (I y)] h Q := by
  have d1 : 1 ≤ d := by omega
  obtain ⟨⟨Ss, pn⟩, Hs, T, l⟩ := W
  obtain ⟨r, A, hm, ht⟩ := id hp
  have wl := w.g.1.l
  unfold sp_ins at hQ
  dsimp only at hQ
  refine Call.intro (by rfl) (Nat.le_of_ble_eq_true rfl) ?_
  refine G.eqL (L := [some (.ref _), some (.int _), some (.int _), some (.int _), none, none]) rfl ?_
  refine B_Model_isInside_0 ?_
  simp only [wp_cons, wp_nil, List.getElem?_cons_zero, List.getElem?_cons_succ, List.set_cons_zero, List.set_cons_succ, s_aload_n0, ldA_r, ldA_n, s_iload_n1, ldI_s, s_invokevirtual, rc_s, ob_s, List.drop_succ_cons, List.drop_zero, List.take_succ_cons, List.take_zero, List.reverse_cons, List.reverse_nil, List.nil_append, List.cons_append, List.length_cons, List.length_nil, d1, Int.reduceToNat, Nat.reduceAdd, Nat.reduceLeDiff, true_and, and_true, Nat.le_refl, true_implies, forall_const, not_false_eq_true, false_implies, not_true_eq_false, reduceCtorEq, tl_s, tl_n, rf_s, true_or, or_true, hm.c]
  refine Mdl_isS2_c (by omega) hm ht.1 wl hs (fun c1 => ?_) (fun c1 => ?_)
  · rw [if_neg (fun q => q c1)] at hQ
    obtain ⟨i, rfl, hi⟩ := nat_of c1
    replace hi : i < Ss.length := hi
    rw [tn_i] at hQ
    have hn := wl.2 i hi
    have hpc := pcs_le (S := sg Ss i)
    refine B_Model_isInside_5 ?_
    simp only [wp_cons, wp_nil, List.getElem?_cons_zero, List.getElem?_cons_succ, List.set_cons_zero, List.set_cons_succ, s_ifCond_ne, p1_s, true_and, and_true, Nat.le_refl, true_implies, forall_const, not_false_eq_true, false_implies, not_true_eq_false, reduceCtorEq, tl_s, tl_n, rf_s, List.cons_append, List.nil_append, true_or, or_true, hm.c]
    refine b_ne (by omega) (by omega) (fun cc => ?_) (fun cc => absurd cc (by omega))
    refine B_Model_isInside_10 ?_
    simp only [wp_cons, wp_nil, List.getElem?_cons_zero, List.getElem?_cons_succ, List.set_cons_zero, List.set_cons_succ, s_iload_n2, ldI_s, s_iload_n3, s_invokestatic, rc_s, ob_s, List.drop_succ_cons, List.drop_zero, List.take_succ_cons, List.take_zero, List.reverse_cons, List.reverse_nil, List.nil_append, List.cons_append, List.length_cons, List.length_nil, Nat.reduceEqDiff, reduceIte, p1_s, p2_s, l1_s, d1, Int.reduceToNat, Nat.reduceAdd, Nat.reduceLeDiff, true_and, and_true, Nat.le_refl, true_implies, forall_const, not_false_eq_true, false_implies, not_true_eq_false, reduceCtorEq, tl_s, tl_n, rf_s, true_or, or_true, hm.c]
    refine Mdl_isPl_c (by omega) hx hy (fun c2 => ?_) (fun c2 => ?_)
    · rw [if_neg (fun q => q c2)] at hQ
      refine B_Model_isInside_15 ?_
      simp only [wp_cons, wp_nil, List.getElem?_cons_zero, List.getElem?_cons_succ, List.set_cons_zero, List.set_cons_succ, s_ifCond_ne, p1_s, true_and, and_true, Nat.le_refl, true_implies, forall_const, not_false_eq_true, false_implies, not_true_eq_false, reduceCtorEq, tl_s, tl_n, rf_s, List.cons_append, List.nil_append, true_or, or_true, hm.c]
      refine b_ne (by omega) (by omega) (fun cc => ?_) (fun cc => absurd cc (by omega))
      refine B_Model_isInside_21 ?_
      simp only [wp_cons, wp_nil, List.getElem?_cons_zero, List.getElem?_cons_succ, List.set_cons_zero, List.set_cons_succ, s_aload_n0, ldA_r, ldA_n, s_iload_n1, ldI_s, s_invokevirtual, rc_s, ob_s, List.drop_succ_cons, List.drop_zero, List.take_succ_cons, List.take_zero, List.reverse_cons, List.reverse_nil, List.nil_append, List.cons_append, List.length_cons, List.length_nil, d1, Int.reduceToNat, Nat.reduceAdd, Nat.reduceLeDiff, true_and, and_true, Nat.le_refl, true_implies, forall_const, not_false_eq_true, false_implies, not_true_eq_false, reduceCtorEq, tl_s, tl_n, rf_s, true_or, or_true, hm.c]
      refine Mdl_clo_c (by omega) hm ht.1 wl hi ?_
      cases z : (sg Ss i).2 with
      | false =>
        rw [if_pos z] at hQ
        rw [show sz false = 0 from rfl]
        refine B_Model_isInside_26 ?_
        simp only [wp_cons, wp_nil, List.getElem?_cons_zero, List.getElem?_cons_succ, List.set_cons_zero, List.set_cons_succ, s_ifCond_ne, p1_s, true_and, and_true, Nat.le_refl, true_implies, forall_const, not_false_eq_true, false_implies, not_true_eq_false, reduceCtorEq, tl_s, tl_n, rf_s, List.cons_append, List.nil_append, true_or, or_true, hm.c]
        refine B_Model_isInside_29 ?_
        simp only [wp_cons, wp_nil, List.getElem?_cons_zero, List.getElem?_cons_succ, List.set_cons_zero, List.set_cons_succ, s_bipush, s_ireturn, p1_s, rI_i, rI_z, rI_c, z_01, z_11, rt_Model_isInside, true_and, and_true, Nat.le_refl, true_implies, forall_const, not_false_eq_true, false_implies, not_true_eq_false, reduceCtorEq, tl_s, tl_n, rf_s, List.cons_append, List.nil_append, true_or, or_true, hm.c]
        exact hQ h chg.rf hp
      | true =>
        rw [if_neg (by rw [z]; decide)] at hQ
        have hpe : pcs (sg Ss i) = (sg Ss i).1.length := by unfold pcs; rw [if_pos z]
        have hb := sm_b1 (fun k => if ray (pg (sg Ss i).1 k) (pr (sg Ss i).1 (k + 1)) x y = true then 1 else 0) 1 (sg Ss i).1.length (fun k _ => by split <;> omega)
        rw [show sz true = 1 from rfl]
        have loop : ∀ (m k : Nat) (v : Int), k + m = (sg Ss i).1.length → v = sm (fun k => if ray (pg (sg Ss i).1 k) (pr (sg Ss i).1 (k + 1)) x y = true then 1 else 0) k → G Model_isInside d 0 0 0 0 38 [some (.ref M), some (.int (I (i : Int))), some (.int (I x)), some (.int (I y)), some (.int (I v)), some (.int (I (k : Int)))] [] h Q := by
          intro m
          induction m with
          | zero =>
            intro k v hk hv
            obtain rfl : k = (sg Ss i).1.length := by omega
            have e2 : I v - I v / I 2 * I 2 = I (v % 2) := by
              rw [I_div (by omega) (by omega), Int.tdiv_eq_ediv_of_nonneg (by omega), I_mul, I_sub]
              congr 1
              omega
            refine B_Model_isInside_38 ?_
            simp only [wp_cons, wp_nil, List.getElem?_cons_zero, List.getElem?_cons_succ, List.set_cons_zero, List.set_cons_succ, s_iload, ldI_s, s_aload_n0, ldA_r, ldA_n, s_iload_n1, s_invokevirtual, rc_s, ob_s, List.drop_succ_cons, List.drop_zero, List.take_succ_cons, List.take_zero, List.reverse_cons, List.reverse_nil, List.nil_append, List.cons_append, List.length_cons, List.length_nil, d1, Int.reduceToNat, Nat.reduceAdd, Nat.reduceLeDiff, true_and, and_true, Nat.le_refl, true_implies, forall_const, not_false_eq_true, false_implies, not_true_eq_false, reduceCtorEq, tl_s, tl_n, rf_s, true_or, or_true, hm.c]
            refine Mdl_pcs_c (by omega) hm ht.1 wl hi ?_
            refine B_Model_isInside_45 ?_
            simp only [wp_cons, wp_nil, List.getElem?_cons_zero, List.getElem?_cons_succ, List.set_cons_zero, List.set_cons_succ, s_if_icmp_ge, p2_s, true_and, and_true, Nat.le_refl, true_implies, forall_const, not_false_eq_true, false_implies, not_true_eq_false, reduceCtorEq, tl_s, tl_n, rf_s, List.cons_append, List.nil_append, true_or, or_true, hm.c, e2]
            refine b_le (by omega) (by omega) (fun cc => ?_) (fun cc => absurd cc (by omega))
            refine B_Model_isInside_88 ?_
            simp only [wp_cons, wp_nil, List.getElem?_cons_zero, List.getElem?_cons_succ, List.set_cons_zero, List.set_cons_succ, s_iload, ldI_s, s_iconst, s_irem, p2_s, ne_k1000, ne_k2, s_ireturn, p1_s, rI_i, rI_z, rI_c, z_01, z_11, rt_Model_isInside, true_and, and_true, Nat.le_refl, true_implies, forall_const, not_false_eq_true, false_implies, not_true_eq_false, reduceCtorEq, tl_s, tl_n, rf_s, List.cons_append, List.nil_append, true_or, or_true, hm.c, e2]
            rw [hv]
            exact hQ h chg.rf hp
          | succ m ih =>
            intro k v hk hv
            have b1 := wl.p hi (k := k) (by omega)
            have b2 := wl.r hi (k := k + 1)
            refine B_Model_isInside_38 ?_
            simp only [wp_cons, wp_nil, List.getElem?_cons_zero, List.getElem?_cons_succ, List.set_cons_zero, List.set_cons_succ, s_iload, ldI_s, s_aload_n0, ldA_r, ldA_n, s_iload_n1, s_invokevirtual, rc_s, ob_s, List.drop_succ_cons, List.drop_zero, List.take_succ_cons, List.take_zero, List.reverse_cons, List.reverse_nil, List.nil_append, List.cons_append, List.length_cons, List.length_nil, d1, Int.reduceToNat, Nat.reduceAdd, Nat.reduceLeDiff, true_and, and_true, Nat.le_refl, true_implies, forall_const, not_false_eq_true, false_implies, not_true_eq_false, reduceCtorEq, tl_s, tl_n, rf_s, true_or, or_true, hm.c]
            refine Mdl_pcs_c (by omega) hm ht.1 wl hi ?_
            refine B_Model_isInside_45 ?_
            simp only [wp_cons, wp_nil, List.getElem?_cons_zero, List.getElem?_cons_succ, List.set_cons_zero, List.set_cons_succ, s_if_icmp_ge, p2_s, true_and, and_true, Nat.le_refl, true_implies, forall_const, not_false_eq_true, false_implies, not_true_eq_false, reduceCtorEq, tl_s, tl_n, rf_s, List.cons_append, List.nil_append, true_or, or_true, hm.c]
            refine b_le (by omega) (by omega) (fun cc => absurd cc (by omega)) (fun cc => ?_)
            refine B_Model_isInside_48 ?_
            simp only [wp_cons, wp_nil, List.getElem?_cons_zero, List.getElem?_cons_succ, List.set_cons_zero, List.set_cons_succ, s_iload, ldI_s, s_aload_n0, ldA_r, ldA_n, s_iload_n1, s_invokevirtual, rc_s, ob_s, List.drop_succ_cons, List.drop_zero, List.take_succ_cons, List.take_zero, List.reverse_cons, List.reverse_nil, List.nil_append, List.cons_append, List.length_cons, List.length_nil, d1, Int.reduceToNat, Nat.reduceAdd, Nat.reduceLeDiff, true_and, and_true, Nat.le_refl, true_implies, forall_const, not_false_eq_true, false_implies, not_true_eq_false, reduceCtorEq, tl_s, tl_n, rf_s, true_or, or_true, hm.c]
            refine Mdl_pAt_c (by omega) hm ht.1 wl hi (show k < (sg Ss i).1.length by omega) ?_
            refine B_Model_isInside_57 ?_
            simp only [wp_cons, wp_nil, List.getElem?_cons_zero, List.getElem?_cons_succ, List.set_cons_zero, List.set_cons_succ, s_aload_n0, ldA_r, ldA_n, s_iload_n1, ldI_s, s_iload, s_iconst, s_iadd, p2_s, I_add, s_invokevirtual, rc_s, ob_s, List.drop_succ_cons, List.drop_zero, List.take_succ_cons, List.take_zero, List.reverse_cons, List.reverse_nil, List.nil_append, List.cons_append, List.length_cons, List.length_nil, d1, Int.reduceToNat, Nat.reduceAdd, Nat.reduceLeDiff, true_and, and_true, Nat.le_refl, true_implies, forall_const, not_false_eq_true, false_implies, not_true_eq_false, reduceCtorEq, tl_s, tl_n, rf_s, true_or, or_true, hm.c]
            refine Mdl_pAr_c (by omega) (k := k + 1) hm ht.1 wl hi (show k + 1 ≤ (sg Ss i).1.length by omega) ?_
            refine B_Model_isInside_66 ?_
            simp only [wp_cons, wp_nil, List.getElem?_cons_zero, List.getElem?_cons_succ, List.set_cons_zero, List.set_cons_succ, s_iload_n2, ldI_s, s_iload_n3, s_invokestatic, rc_s, ob_s, List.drop_succ_cons, List.drop_zero, List.take_succ_cons, List.take_zero, List.reverse_cons, List.reverse_nil, List.nil_append, List.cons_append, List.length_cons, List.length_nil, Nat.reduceEqDiff, reduceIte, p1_s, p2_s, l1_s, d1, Int.reduceToNat, Nat.reduceAdd, Nat.reduceLeDiff, true_and, and_true, Nat.le_refl, true_implies, forall_const, not_false_eq_true, false_implies, not_true_eq_false, reduceCtorEq, tl_s, tl_n, rf_s, true_or, or_true, hm.c]
            refine Mdl_ahead_c (by omega) b1 b2 ⟨c2.1, c2.2.1⟩ c2.2.2 ?_
            cases e : ray (pg (sg Ss i).1 k) (pr (sg Ss i).1 (k + 1)) x y with
            | true =>
              rw [show bi true = 1 from rfl]
              refine B_Model_isInside_71 ?_
              simp only [wp_cons, wp_nil, List.getElem?_cons_zero, List.getElem?_cons_succ, List.set_cons_zero, List.set_cons_succ, s_ifCond_eq, p1_s, true_and, and_true, Nat.le_refl, true_implies, forall_const, not_false_eq_true, false_implies, not_true_eq_false, reduceCtorEq, tl_s, tl_n, rf_s, List.cons_append, List.nil_append, true_or, or_true, hm.c]
              refine b_eq (by omega) (by omega) (fun cc => absurd cc (by omega)) (fun cc => ?_)
              refine B_Model_isInside_74 ?_
              simp only [wp_cons, wp_nil, List.getElem?_cons_zero, List.getElem?_cons_succ, List.set_cons_zero, List.set_cons_succ, s_iconst, s_goto, true_and, and_true, Nat.le_refl, true_implies, forall_const, not_false_eq_true, false_implies, not_true_eq_false, reduceCtorEq, tl_s, tl_n, rf_s, List.cons_append, List.nil_append, true_or, or_true, hm.c]
              refine B_Model_isInside_79 ?_
              simp only [wp_cons, wp_nil, List.getElem?_cons_zero, List.getElem?_cons_succ, List.set_cons_zero, List.set_cons_succ, s_iadd, p2_s, I_add, s_istore, p1_s, s1_0, s1_s, kx_i, kx_r, kx_n, kx_l, kx_0, s_iinc, ldI_s, s_goto, true_and, and_true, Nat.le_refl, true_implies, forall_const, not_false_eq_true, false_implies, not_true_eq_false, reduceCtorEq, tl_s, tl_n, rf_s, List.cons_append, List.nil_append, true_or, or_true, hm.c]
              exact ih (k + 1) _ (by omega) (by rw [hv]; show _ = sm _ k + (if _ then 1 else 0); rw [if_pos e])
            | false =>
              rw [show bi false = 0 from rfl]
              refine B_Model_isInside_71 ?_
              simp only [wp_cons, wp_nil, List.getElem?_cons_zero, List.getElem?_cons_succ, List.set_cons_zero, List.set_cons_succ, s_ifCond_eq, p1_s, true_and, and_true, Nat.le_refl, true_implies, forall_const, not_false_eq_true, false_implies, not_true_eq_false, reduceCtorEq, tl_s, tl_n, rf_s, List.cons_append, List.nil_append, true_or, or_true, hm.c]
              refine B_Model_isInside_78 ?_
              simp only [wp_cons, wp_nil, List.getElem?_cons_zero, List.getElem?_cons_succ, List.set_cons_zero, List.set_cons_succ, s_iconst, true_and, and_true, Nat.le_refl, true_implies, forall_const, not_false_eq_true, false_implies, not_true_eq_false, reduceCtorEq, tl_s, tl_n, rf_s, List.cons_append, List.nil_append, true_or, or_true, hm.c]
              refine B_Model_isInside_79 ?_
              simp only [wp_cons, wp_nil, List.getElem?_cons_zero, List.getElem?_cons_succ, List.set_cons_zero, List.set_cons_succ, s_iadd, p2_s, I_add, s_istore, p1_s, s1_0, s1_s, kx_i, kx_r, kx_n, kx_l, kx_0, s_iinc, ldI_s, s_goto, true_and, and_true, Nat.le_refl, true_implies, forall_const, not_false_eq_true, false_implies, not_true_eq_false, reduceCtorEq, tl_s, tl_n, rf_s, List.cons_append, List.nil_append, true_or, or_true, hm.c]
              exact ih (k + 1) _ (by omega) (by rw [hv]; show _ = sm _ k + (if _ then 1 else 0); rw [if_neg (by rw [e]; decide)])
        refine B_Model_isInside_26 ?_
        simp only [wp_cons, wp_nil, List.getElem?_cons_zero, List.getElem?_cons_succ, List.set_cons_zero, List.set_cons_succ, s_ifCond_ne, p1_s, true_and, and_true, Nat.le_refl, true_implies, forall_const, not_false_eq_true, false_implies, not_true_eq_false, reduceCtorEq, tl_s, tl_n, rf_s, List.cons_append, List.nil_append, true_or, or_true, hm.c]
        refine b_ne (by omega) (by omega) (fun cc => ?_) (fun cc => absurd cc (by omega))
        refine B_Model_isInside_32 ?_
        simp only [wp_cons, wp_nil, List.getElem?_cons_zero, List.getElem?_cons_succ, List.set_cons_zero, List.set_cons_succ, s_iconst, s_istore, p1_s, s1_0, s1_s, kx_i, kx_r, kx_n, kx_l, kx_0, true_and, and_true, Nat.le_refl, true_implies, forall_const, not_false_eq_true, false_implies, not_true_eq_false, reduceCtorEq, tl_s, tl_n, rf_s, List.cons_append, List.nil_append, true_or, or_true, hm.c]
        exact loop (sg Ss i).1.length 0 0 (by omega) rfl
    · rw [if_pos c2] at hQ
      refine B_Model_isInside_15 ?_
      simp only [wp_cons, wp_nil, List.getElem?_cons_zero, List.getElem?_cons_succ, List.set_cons_zero, List.set_cons_succ, s_ifCond_ne, p1_s, true_and, and_true, Nat.le_refl, true_implies, forall_const, not_false_eq_true, false_implies, not_true_eq_false, reduceCtorEq, tl_s, tl_n, rf_s, List.cons_append, List.nil_append, true_or, or_true, hm.c]
      refine B_Model_isInside_18 ?_
      simp only [wp_cons, wp_nil, List.getElem?_cons_zero, List.getElem?_cons_succ, List.set_cons_zero, List.set_cons_succ, s_bipush, s_ireturn, p1_s, rI_i, rI_z, rI_c, z_01, z_11, rt_Model_isInside, true_and, and_true, Nat.le_refl, true_implies, forall_const, not_false_eq_true, false_implies, not_true_eq_false, reduceCtorEq, tl_s, tl_n, rf_s, List.cons_append, List.nil_append, true_or, or_true, hm.c]
      exact hQ h chg.rf hp
  · rw [if_pos c1] at hQ
    refine B_Model_isInside_5 ?_
    simp only [wp_cons, wp_nil, List.getElem?_cons_zero, List.getElem?_cons_succ, List.set_cons_zero, List.set_cons_succ, s_ifCond_ne, p1_s, true_and, and_true, Nat.le_refl, true_implies, forall_const, not_false_eq_true, false_implies, not_true_eq_false, reduceCtorEq, tl_s, tl_n, rf_s, List.cons_append, List.nil_append, true_or, or_true, hm.c]
    refine B_Model_isInside_8 ?_
    simp only [wp_cons, wp_nil, List.getElem?_cons_zero, List.getElem?_cons_succ, List.set_cons_zero, List.set_cons_succ, s_iconst, s_ireturn, p1_s, rI_i, rI_z, rI_c, z_01, z_11, rt_Model_isInside, true_and, and_true, Nat.le_refl, true_implies, forall_const, not_false_eq_true, false_implies, not_true_eq_false, reduceCtorEq, tl_s, tl_n, rf_s, List.cons_append, List.nil_append, true_or, or_true, hm.c]
    exact hQ h chg.rf hp
