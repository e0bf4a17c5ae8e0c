/-! ===== the reference: what is told about strokes ===== -/
/-! blocks of Model_lengthOf -/
theorem ml_Model_lengthOf : (g_m Model_lengthOf).2.2.1 = 4 := rfl
theorem rt_Model_lengthOf : (g_m Model_lengthOf).2.2.2.1 = (some .int) := rfl
theorem B_Model_lengthOf_0 {d mc ms cs ss : Nat} {L : List (Option Value)} {st : List Value} {h : g_H} {Q : g_Po} (hw : g_wp Model_lengthOf d mc ms Q 4 [(0, 1, 0, 0, 0, 0, .iconst 0), (1, 1, 0, 0, 0, 0, .istore_n 2), (2, 1, 0, 0, 0, 0, .iconst 0), (3, 1, 0, 0, 0, 0, .istore_n 3)] cs ss L st h) : G Model_lengthOf d mc ms cs ss 0 L st h Q := G.run (by decide +kernel) hw
theorem B_Model_lengthOf_4 {d mc ms cs ss : Nat} {L : List (Option Value)} {st : List Value} {h : g_H} {Q : g_Po} (hw : g_wp Model_lengthOf d mc ms Q 10 [(4, 1, 0, 0, 0, 0, .iload_n 3), (5, 1, 0, 0, 0, 0, .aload_n 0), (6, 1, 0, 0, 0, 0, .iload_n 1), (7, 3, 122, 7, 4203, 1, .invokevirtual 200)] cs ss L st h) : G Model_lengthOf d mc ms cs ss 4 L st h Q := G.run (by decide +kernel) hw
theorem B_Model_lengthOf_10 {d mc ms cs ss : Nat} {L : List (Option Value)} {st : List Value} {h : g_H} {Q : g_Po} (hw : g_wp Model_lengthOf d mc ms Q 13 [(10, 3, 45, 0, 0, 0, .if_icmp .ge 35)] cs ss L st h) : G Model_lengthOf d mc ms cs ss 10 L st h Q := G.run (by decide +kernel) hw
theorem B_Model_lengthOf_13 {d mc ms cs ss : Nat} {L : List (Option Value)} {st : List Value} {h : g_H} {Q : g_Po} (hw : g_wp Model_lengthOf d mc ms Q 22 [(13, 1, 0, 0, 0, 0, .iload_n 2), (14, 2, 0, 0, 0, 100, .bipush 100), (16, 1, 0, 0, 0, 0, .aload_n 0), (17, 1, 0, 0, 0, 0, .iload_n 1), (18, 1, 0, 0, 0, 0, .iload_n 3), (19, 3, 121, 7, 4051, 2, .invokevirtual 95)] cs ss L st h) : G Model_lengthOf d mc ms cs ss 13 L st h Q := G.run (by decide +kernel) hw
theorem B_Model_lengthOf_22 {d mc ms cs ss : Nat} {L : List (Option Value)} {st : List Value} {h : g_H} {Q : g_Po} (hw : g_wp Model_lengthOf d mc ms Q 30 [(22, 1, 0, 0, 0, 0, .aload_n 0), (23, 1, 0, 0, 0, 0, .iload_n 1), (24, 1, 0, 0, 0, 0, .iload_n 3), (25, 1, 0, 0, 0, 1, .iconst 1), (26, 1, 0, 0, 0, 0, .iadd), (27, 3, 121, 7, 4051, 2, .invokevirtual 95)] cs ss L st h) : G Model_lengthOf d mc ms cs ss 22 L st h Q := G.run (by decide +kernel) hw
theorem B_Model_lengthOf_30 {d mc ms cs ss : Nat} {L : List (Option Value)} {st : List Value} {h : g_H} {Q : g_Po} (hw : g_wp Model_lengthOf d mc ms Q 33 [(30, 3, 123, 0, 4055, 2, .invokestatic 98)] cs ss L st h) : G Model_lengthOf d mc ms cs ss 30 L st h Q := G.run (by decide +kernel) hw
theorem B_Model_lengthOf_33 {d mc ms cs ss : Nat} {L : List (Option Value)} {st : List Value} {h : g_H} {Q : g_Po} (hw : g_wp Model_lengthOf d mc ms Q 37 [(33, 1, 0, 0, 0, 0, .imul), (34, 3, 126, 0, 4207, 1, .invokestatic 203)] cs ss L st h) : G Model_lengthOf d mc ms cs ss 33 L st h Q := G.run (by decide +kernel) hw
theorem B_Model_lengthOf_37 {d mc ms cs ss : Nat} {L : List (Option Value)} {st : List Value} {h : g_H} {Q : g_Po} (hw : g_wp Model_lengthOf d mc ms Q 45 [(37, 1, 0, 0, 0, 0, .iadd), (38, 1, 0, 0, 0, 0, .istore_n 2), (39, 3, 0, 0, 0, 1, .iinc 3 1), (42, 3, 4, 0, 0, 0, .goto (-38))] cs ss L st h) : G Model_lengthOf d mc ms cs ss 37 L st h Q := G.run (by decide +kernel) hw
theorem B_Model_lengthOf_45 {d mc ms cs ss : Nat} {L : List (Option Value)} {st : List Value} {h : g_H} {Q : g_Po} (hw : g_wp Model_lengthOf d mc ms Q 47 [(45, 1, 0, 0, 0, 0, .iload_n 2), (46, 1, 0, 0, 0, 0, .ireturn)] cs ss L st h) : G Model_lengthOf d mc ms cs ss 45 L st h Q := G.run (by decide +kernel) hw
/-! blocks of Model_areaOf -/
theorem ml_Model_areaOf : (g_m Model_areaOf).2.2.1 = 6 := rfl
theorem rt_Model_areaOf : (g_m Model_areaOf).2.2.2.1 = (some .int) := rfl
theorem B_Model_areaOf_0 {d mc ms cs ss : Nat} {L : List (Option Value)} {st : List Value} {h : g_H} {Q : g_Po} (hw : g_wp Model_areaOf d mc ms Q 4 [(0, 1, 0, 0, 0, 0, .iconst 0), (1, 1, 0, 0, 0, 0, .istore_n 2), (2, 1, 0, 0, 0, 0, .iconst 0), (3, 1, 0, 0, 0, 0, .istore_n 3)] cs ss L st h) : G Model_areaOf d mc ms cs ss 0 L st h Q := G.run (by decide +kernel) hw
theorem B_Model_areaOf_4 {d mc ms cs ss : Nat} {L : List (Option Value)} {st : List Value} {h : g_H} {Q : g_Po} (hw : g_wp Model_areaOf d mc ms Q 10 [(4, 1, 0, 0, 0, 0, .iload_n 3), (5, 1, 0, 0, 0, 0, .aload_n 0), (6, 1, 0, 0, 0, 0, .iload_n 1), (7, 3, 122, 7, 4203, 1, .invokevirtual 200)] cs ss L st h) : G Model_areaOf d mc ms cs ss 4 L st h Q := G.run (by decide +kernel) hw
theorem B_Model_areaOf_10 {d mc ms cs ss : Nat} {L : List (Option Value)} {st : List Value} {h : g_H} {Q : g_Po} (hw : g_wp Model_areaOf d mc ms Q 13 [(10, 3, 71, 0, 0, 0, .if_icmp .ge 61)] cs ss L st h) : G Model_areaOf d mc ms cs ss 10 L st h Q := G.run (by decide +kernel) hw
theorem B_Model_areaOf_13 {d mc ms cs ss : Nat} {L : List (Option Value)} {st : List Value} {h : g_H} {Q : g_Po} (hw : g_wp Model_areaOf d mc ms Q 18 [(13, 1, 0, 0, 0, 0, .aload_n 0), (14, 1, 0, 0, 0, 0, .iload_n 1), (15, 3, 120, 7, 4035, 1, .invokevirtual 61)] cs ss L st h) : G Model_areaOf d mc ms cs ss 13 L st h Q := G.run (by decide +kernel) hw
theorem B_Model_areaOf_18 {d mc ms cs ss : Nat} {L : List (Option Value)} {st : List Value} {h : g_H} {Q : g_Po} (hw : g_wp Model_areaOf d mc ms Q 21 [(18, 3, 71, 0, 0, 0, .ifCond .eq 53)] cs ss L st h) : G Model_areaOf d mc ms cs ss 18 L st h Q := G.run (by decide +kernel) hw
theorem B_Model_areaOf_21 {d mc ms cs ss : Nat} {L : List (Option Value)} {st : List Value} {h : g_H} {Q : g_Po} (hw : g_wp Model_areaOf d mc ms Q 27 [(21, 1, 0, 0, 0, 0, .aload_n 0), (22, 1, 0, 0, 0, 0, .iload_n 1), (23, 1, 0, 0, 0, 0, .iload_n 3), (24, 3, 121, 7, 4051, 2, .invokevirtual 95)] cs ss L st h) : G Model_areaOf d mc ms cs ss 21 L st h Q := G.run (by decide +kernel) hw
theorem B_Model_areaOf_27 {d mc ms cs ss : Nat} {L : List (Option Value)} {st : List Value} {h : g_H} {Q : g_Po} (hw : g_wp Model_areaOf d mc ms Q 37 [(27, 2, 0, 0, 0, 0, .istore 4), (29, 1, 0, 0, 0, 0, .aload_n 0), (30, 1, 0, 0, 0, 0, .iload_n 1), (31, 1, 0, 0, 0, 0, .iload_n 3), (32, 1, 0, 0, 0, 1, .iconst 1), (33, 1, 0, 0, 0, 0, .iadd), (34, 3, 121, 7, 4051, 2, .invokevirtual 95)] cs ss L st h) : G Model_areaOf d mc ms cs ss 27 L st h Q := G.run (by decide +kernel) hw
theorem B_Model_areaOf_37 {d mc ms cs ss : Nat} {L : List (Option Value)} {st : List Value} {h : g_H} {Q : g_Po} (hw : g_wp Model_areaOf d mc ms Q 45 [(37, 2, 0, 0, 0, 0, .istore 5), (39, 1, 0, 0, 0, 0, .iload_n 2), (40, 2, 0, 0, 0, 0, .iload 4), (42, 3, 114, 0, 4058, 1, .invokestatic 64)] cs ss L st h) : G Model_areaOf d mc ms cs ss 37 L st h Q := G.run (by decide +kernel) hw
theorem B_Model_areaOf_45 {d mc ms cs ss : Nat} {L : List (Option Value)} {st : List Value} {h : g_H} {Q : g_Po} (hw : g_wp Model_areaOf d mc ms Q 50 [(45, 2, 0, 0, 0, 0, .iload 5), (47, 3, 115, 0, 4061, 1, .invokestatic 67)] cs ss L st h) : G Model_areaOf d mc ms cs ss 45 L st h Q := G.run (by decide +kernel) hw
theorem B_Model_areaOf_50 {d mc ms cs ss : Nat} {L : List (Option Value)} {st : List Value} {h : g_H} {Q : g_Po} (hw : g_wp Model_areaOf d mc ms Q 56 [(50, 1, 0, 0, 0, 0, .imul), (51, 2, 0, 0, 0, 0, .iload 5), (53, 3, 114, 0, 4058, 1, .invokestatic 64)] cs ss L st h) : G Model_areaOf d mc ms cs ss 50 L st h Q := G.run (by decide +kernel) hw
theorem B_Model_areaOf_56 {d mc ms cs ss : Nat} {L : List (Option Value)} {st : List Value} {h : g_H} {Q : g_Po} (hw : g_wp Model_areaOf d mc ms Q 61 [(56, 2, 0, 0, 0, 0, .iload 4), (58, 3, 115, 0, 4061, 1, .invokestatic 67)] cs ss L st h) : G Model_areaOf d mc ms cs ss 56 L st h Q := G.run (by decide +kernel) hw
theorem B_Model_areaOf_61 {d mc ms cs ss : Nat} {L : List (Option Value)} {st : List Value} {h : g_H} {Q : g_Po} (hw : g_wp Model_areaOf d mc ms Q 71 [(61, 1, 0, 0, 0, 0, .imul), (62, 1, 0, 0, 0, 0, .isub), (63, 1, 0, 0, 0, 0, .iadd), (64, 1, 0, 0, 0, 0, .istore_n 2), (65, 3, 0, 0, 0, 1, .iinc 3 1), (68, 3, 4, 0, 0, 0, .goto (-64))] cs ss L st h) : G Model_areaOf d mc ms cs ss 61 L st h Q := G.run (by decide +kernel) hw
theorem B_Model_areaOf_71 {d mc ms cs ss : Nat} {L : List (Option Value)} {st : List Value} {h : g_H} {Q : g_Po} (hw : g_wp Model_areaOf d mc ms Q 73 [(71, 1, 0, 0, 0, 0, .iload_n 2), (72, 1, 0, 0, 0, 0, .ireturn)] cs ss L st h) : G Model_areaOf d mc ms cs ss 71 L st h Q := G.run (by decide +kernel) hw
/-! blocks of Model_sign -/
theorem ml_Model_sign : (g_m Model_sign).2.2.1 = 1 := rfl
theorem rt_Model_sign : (g_m Model_sign).2.2.2.1 = (some .int) := rfl
theorem B_Model_sign_0 {d mc ms cs ss : Nat} {L : List (Option Value)} {st : List Value} {h : g_H} {Q : g_Po} (hw : g_wp Model_sign d mc ms Q 4 [(0, 1, 0, 0, 0, 0, .iload_n 0), (1, 3, 8, 0, 0, 0, .ifCond .le 7)] cs ss L st h) : G Model_sign d mc ms cs ss 0 L st h Q := G.run (by decide +kernel) hw
theorem B_Model_sign_4 {d mc ms cs ss : Nat} {L : List (Option Value)} {st : List Value} {h : g_H} {Q : g_Po} (hw : g_wp Model_sign d mc ms Q 8 [(4, 1, 0, 0, 0, 1, .iconst 1), (5, 3, 17, 0, 0, 0, .goto 12)] cs ss L st h) : G Model_sign d mc ms cs ss 4 L st h Q := G.run (by decide +kernel) hw
theorem B_Model_sign_8 {d mc ms cs ss : Nat} {L : List (Option Value)} {st : List Value} {h : g_H} {Q : g_Po} (hw : g_wp Model_sign d mc ms Q 12 [(8, 1, 0, 0, 0, 0, .iload_n 0), (9, 3, 16, 0, 0, 0, .ifCond .ge 7)] cs ss L st h) : G Model_sign d mc ms cs ss 8 L st h Q := G.run (by decide +kernel) hw
theorem B_Model_sign_12 {d mc ms cs ss : Nat} {L : List (Option Value)} {st : List Value} {h : g_H} {Q : g_Po} (hw : g_wp Model_sign d mc ms Q 16 [(12, 1, 0, 0, 0, (-1), .iconst (-1)), (13, 3, 17, 0, 0, 0, .goto 4)] cs ss L st h) : G Model_sign d mc ms cs ss 12 L st h Q := G.run (by decide +kernel) hw
theorem B_Model_sign_16 {d mc ms cs ss : Nat} {L : List (Option Value)} {st : List Value} {h : g_H} {Q : g_Po} (hw : g_wp Model_sign d mc ms Q 17 [(16, 1, 0, 0, 0, 0, .iconst 0)] cs ss L st h) : G Model_sign d mc ms cs ss 16 L st h Q := G.run (by decide +kernel) hw
theorem B_Model_sign_17 {d mc ms cs ss : Nat} {L : List (Option Value)} {st : List Value} {h : g_H} {Q : g_Po} (hw : g_wp Model_sign d mc ms Q 18 [(17, 1, 0, 0, 0, 0, .ireturn)] cs ss L st h) : G Model_sign d mc ms cs ss 17 L st h Q := G.run (by decide +kernel) hw
/-! blocks of Model_isCrossing -/
theorem ml_Model_isCrossing : (g_m Model_isCrossing).2.2.1 = 4 := rfl
theorem rt_Model_isCrossing : (g_m Model_isCrossing).2.2.2.1 = (some .boolean) := rfl
theorem B_Model_isCrossing_0 {d mc ms cs ss : Nat} {L : List (Option Value)} {st : List Value} {h : g_H} {Q : g_Po} (hw : g_wp Model_isCrossing d mc ms Q 6 [(0, 1, 0, 0, 0, 0, .iload_n 0), (1, 1, 0, 0, 0, 0, .iload_n 1), (2, 1, 0, 0, 0, 0, .iload_n 2), (3, 3, 125, 0, 4072, 3, .invokestatic 101)] cs ss L st h) : G Model_isCrossing d mc ms cs ss 0 L st h Q := G.run (by decide +kernel) hw
theorem B_Model_isCrossing_6 {d mc ms cs ss : Nat} {L : List (Option Value)} {st : List Value} {h : g_H} {Q : g_Po} (hw : g_wp Model_isCrossing d mc ms Q 9 [(6, 3, 171, 0, 4214, 1, .invokestatic 206)] cs ss L st h) : G Model_isCrossing d mc ms cs ss 6 L st h Q := G.run (by decide +kernel) hw
theorem B_Model_isCrossing_9 {d mc ms cs ss : Nat} {L : List (Option Value)} {st : List Value} {h : g_H} {Q : g_Po} (hw : g_wp Model_isCrossing d mc ms Q 15 [(9, 1, 0, 0, 0, 0, .iload_n 0), (10, 1, 0, 0, 0, 0, .iload_n 1), (11, 1, 0, 0, 0, 0, .iload_n 3), (12, 3, 125, 0, 4072, 3, .invokestatic 101)] cs ss L st h) : G Model_isCrossing d mc ms cs ss 9 L st h Q := G.run (by decide +kernel) hw
theorem B_Model_isCrossing_15 {d mc ms cs ss : Nat} {L : List (Option Value)} {st : List Value} {h : g_H} {Q : g_Po} (hw : g_wp Model_isCrossing d mc ms Q 18 [(15, 3, 171, 0, 4214, 1, .invokestatic 206)] cs ss L st h) : G Model_isCrossing d mc ms cs ss 15 L st h Q := G.run (by decide +kernel) hw
theorem B_Model_isCrossing_18 {d mc ms cs ss : Nat} {L : List (Option Value)} {st : List Value} {h : g_H} {Q : g_Po} (hw : g_wp Model_isCrossing d mc ms Q 22 [(18, 1, 0, 0, 0, 0, .imul), (19, 3, 48, 0, 0, 0, .ifCond .ge 29)] cs ss L st h) : G Model_isCrossing d mc ms cs ss 18 L st h Q := G.run (by decide +kernel) hw
theorem B_Model_isCrossing_22 {d mc ms cs ss : Nat} {L : List (Option Value)} {st : List Value} {h : g_H} {Q : g_Po} (hw : g_wp Model_isCrossing d mc ms Q 28 [(22, 1, 0, 0, 0, 0, .iload_n 2), (23, 1, 0, 0, 0, 0, .iload_n 3), (24, 1, 0, 0, 0, 0, .iload_n 0), (25, 3, 125, 0, 4072, 3, .invokestatic 101)] cs ss L st h) : G Model_isCrossing d mc ms cs ss 22 L st h Q := G.run (by decide +kernel) hw
theorem B_Model_isCrossing_28 {d mc ms cs ss : Nat} {L : List (Option Value)} {st : List Value} {h : g_H} {Q : g_Po} (hw : g_wp Model_isCrossing d mc ms Q 31 [(28, 3, 171, 0, 4214, 1, .invokestatic 206)] cs ss L st h) : G Model_isCrossing d mc ms cs ss 28 L st h Q := G.run (by decide +kernel) hw
theorem B_Model_isCrossing_31 {d mc ms cs ss : Nat} {L : List (Option Value)} {st : List Value} {h : g_H} {Q : g_Po} (hw : g_wp Model_isCrossing d mc ms Q 37 [(31, 1, 0, 0, 0, 0, .iload_n 2), (32, 1, 0, 0, 0, 0, .iload_n 3), (33, 1, 0, 0, 0, 0, .iload_n 1), (34, 3, 125, 0, 4072, 3, .invokestatic 101)] cs ss L st h) : G Model_isCrossing d mc ms cs ss 31 L st h Q := G.run (by decide +kernel) hw
theorem B_Model_isCrossing_37 {d mc ms cs ss : Nat} {L : List (Option Value)} {st : List Value} {h : g_H} {Q : g_Po} (hw : g_wp Model_isCrossing d mc ms Q 40 [(37, 3, 171, 0, 4214, 1, .invokestatic 206)] cs ss L st h) : G Model_isCrossing d mc ms cs ss 37 L st h Q := G.run (by decide +kernel) hw
theorem B_Model_isCrossing_40 {d mc ms cs ss : Nat} {L : List (Option Value)} {st : List Value} {h : g_H} {Q : g_Po} (hw : g_wp Model_isCrossing d mc ms Q 44 [(40, 1, 0, 0, 0, 0, .imul), (41, 3, 48, 0, 0, 0, .ifCond .ge 7)] cs ss L st h) : G Model_isCrossing d mc ms cs ss 40 L st h Q := G.run (by decide +kernel) hw
theorem B_Model_isCrossing_44 {d mc ms cs ss : Nat} {L : List (Option Value)} {st : List Value} {h : g_H} {Q : g_Po} (hw : g_wp Model_isCrossing d mc ms Q 48 [(44, 1, 0, 0, 0, 1, .iconst 1), (45, 3, 49, 0, 0, 0, .goto 4)] cs ss L st h) : G Model_isCrossing d mc ms cs ss 44 L st h Q := G.run (by decide +kernel) hw
theorem B_Model_isCrossing_48 {d mc ms cs ss : Nat} {L : List (Option Value)} {st : List Value} {h : g_H} {Q : g_Po} (hw : g_wp Model_isCrossing d mc ms Q 49 [(48, 1, 0, 0, 0, 0, .iconst 0)] cs ss L st h) : G Model_isCrossing d mc ms cs ss 48 L st h Q := G.run (by decide +kernel) hw
theorem B_Model_isCrossing_49 {d mc ms cs ss : Nat} {L : List (Option Value)} {st : List Value} {h : g_H} {Q : g_Po} (hw : g_wp Model_isCrossing d mc ms Q 50 [(49, 1, 0, 0, 0, 0, .ireturn)] cs ss L st h) : G Model_isCrossing d mc ms cs ss 49 L st h Q := G.run (by decide +kernel) hw
/-! blocks of Model_areCrossing -/
theorem ml_Model_areCrossing : (g_m Model_areCrossing).2.2.1 = 5 := rfl
theorem rt_Model_areCrossing : (g_m Model_areCrossing).2.2.2.1 = (some .boolean) := rfl
theorem B_Model_areCrossing_0 {d mc ms cs ss : Nat} {L : List (Option Value)} {st : List Value} {h : g_H} {Q : g_Po} (hw : g_wp Model_areCrossing d mc ms Q 6 [(0, 1, 0, 0, 0, 0, .aload_n 0), (1, 1, 0, 0, 0, 0, .iload_n 1), (2, 1, 0, 0, 0, 0, .iload_n 2), (3, 3, 121, 7, 4051, 2, .invokevirtual 95)] cs ss L st h) : G Model_areCrossing d mc ms cs ss 0 L st h Q := G.run (by decide +kernel) hw
theorem B_Model_areCrossing_6 {d mc ms cs ss : Nat} {L : List (Option Value)} {st : List Value} {h : g_H} {Q : g_Po} (hw : g_wp Model_areCrossing d mc ms Q 14 [(6, 1, 0, 0, 0, 0, .aload_n 0), (7, 1, 0, 0, 0, 0, .iload_n 1), (8, 1, 0, 0, 0, 0, .iload_n 2), (9, 1, 0, 0, 0, 1, .iconst 1), (10, 1, 0, 0, 0, 0, .iadd), (11, 3, 121, 7, 4051, 2, .invokevirtual 95)] cs ss L st h) : G Model_areCrossing d mc ms cs ss 6 L st h Q := G.run (by decide +kernel) hw
theorem B_Model_areCrossing_14 {d mc ms cs ss : Nat} {L : List (Option Value)} {st : List Value} {h : g_H} {Q : g_Po} (hw : g_wp Model_areCrossing d mc ms Q 21 [(14, 1, 0, 0, 0, 0, .aload_n 0), (15, 1, 0, 0, 0, 0, .iload_n 3), (16, 2, 0, 0, 0, 0, .iload 4), (18, 3, 121, 7, 4051, 2, .invokevirtual 95)] cs ss L st h) : G Model_areCrossing d mc ms cs ss 14 L st h Q := G.run (by decide +kernel) hw
theorem B_Model_areCrossing_21 {d mc ms cs ss : Nat} {L : List (Option Value)} {st : List Value} {h : g_H} {Q : g_Po} (hw : g_wp Model_areCrossing d mc ms Q 30 [(21, 1, 0, 0, 0, 0, .aload_n 0), (22, 1, 0, 0, 0, 0, .iload_n 3), (23, 2, 0, 0, 0, 0, .iload 4), (25, 1, 0, 0, 0, 1, .iconst 1), (26, 1, 0, 0, 0, 0, .iadd), (27, 3, 121, 7, 4051, 2, .invokevirtual 95)] cs ss L st h) : G Model_areCrossing d mc ms cs ss 21 L st h Q := G.run (by decide +kernel) hw
theorem B_Model_areCrossing_30 {d mc ms cs ss : Nat} {L : List (Option Value)} {st : List Value} {h : g_H} {Q : g_Po} (hw : g_wp Model_areCrossing d mc ms Q 33 [(30, 3, 172, 0, 4225, 4, .invokestatic 209)] cs ss L st h) : G Model_areCrossing d mc ms cs ss 30 L st h Q := G.run (by decide +kernel) hw
theorem B_Model_areCrossing_33 {d mc ms cs ss : Nat} {L : List (Option Value)} {st : List Value} {h : g_H} {Q : g_Po} (hw : g_wp Model_areCrossing d mc ms Q 34 [(33, 1, 0, 0, 0, 0, .ireturn)] cs ss L st h) : G Model_areCrossing d mc ms cs ss 33 L st h Q := G.run (by decide +kernel) hw
/-! blocks of Model_crossingsOf -/
theorem ml_Model_crossingsOf : (g_m Model_crossingsOf).2.2.1 = 5 := rfl
theorem rt_Model_crossingsOf : (g_m Model_crossingsOf).2.2.2.1 = (some .int) := rfl
theorem B_Model_crossingsOf_0 {d mc ms cs ss : Nat} {L : List (Option Value)} {st : List Value} {h : g_H} {Q : g_Po} (hw : g_wp Model_crossingsOf d mc ms Q 4 [(0, 1, 0, 0, 0, 0, .iconst 0), (1, 1, 0, 0, 0, 0, .istore_n 2), (2, 1, 0, 0, 0, 0, .iconst 0), (3, 1, 0, 0, 0, 0, .istore_n 3)] cs ss L st h) : G Model_crossingsOf d mc ms cs ss 0 L st h Q := G.run (by decide +kernel) hw
theorem B_Model_crossingsOf_4 {d mc ms cs ss : Nat} {L : List (Option Value)} {st : List Value} {h : g_H} {Q : g_Po} (hw : g_wp Model_crossingsOf d mc ms Q 10 [(4, 1, 0, 0, 0, 0, .iload_n 3), (5, 1, 0, 0, 0, 0, .aload_n 0), (6, 1, 0, 0, 0, 0, .iload_n 1), (7, 3, 122, 7, 4203, 1, .invokevirtual 200)] cs ss L st h) : G Model_crossingsOf d mc ms cs ss 4 L st h Q := G.run (by decide +kernel) hw
theorem B_Model_crossingsOf_10 {d mc ms cs ss : Nat} {L : List (Option Value)} {st : List Value} {h : g_H} {Q : g_Po} (hw : g_wp Model_crossingsOf d mc ms Q 13 [(10, 3, 60, 0, 0, 0, .if_icmp .ge 50)] cs ss L st h) : G Model_crossingsOf d mc ms cs ss 10 L st h Q := G.run (by decide +kernel) hw
theorem B_Model_crossingsOf_13 {d mc ms cs ss : Nat} {L : List (Option Value)} {st : List Value} {h : g_H} {Q : g_Po} (hw : g_wp Model_crossingsOf d mc ms Q 18 [(13, 1, 0, 0, 0, 0, .iload_n 3), (14, 1, 0, 0, 0, 1, .iconst 1), (15, 1, 0, 0, 0, 0, .iadd), (16, 2, 0, 0, 0, 0, .istore 4)] cs ss L st h) : G Model_crossingsOf d mc ms cs ss 13 L st h Q := G.run (by decide +kernel) hw
theorem B_Model_crossingsOf_18 {d mc ms cs ss : Nat} {L : List (Option Value)} {st : List Value} {h : g_H} {Q : g_Po} (hw : g_wp Model_crossingsOf d mc ms Q 25 [(18, 2, 0, 0, 0, 0, .iload 4), (20, 1, 0, 0, 0, 0, .aload_n 0), (21, 1, 0, 0, 0, 0, .iload_n 1), (22, 3, 122, 7, 4203, 1, .invokevirtual 200)] cs ss L st h) : G Model_crossingsOf d mc ms cs ss 18 L st h Q := G.run (by decide +kernel) hw
theorem B_Model_crossingsOf_25 {d mc ms cs ss : Nat} {L : List (Option Value)} {st : List Value} {h : g_H} {Q : g_Po} (hw : g_wp Model_crossingsOf d mc ms Q 28 [(25, 3, 54, 0, 0, 0, .if_icmp .ge 29)] cs ss L st h) : G Model_crossingsOf d mc ms cs ss 25 L st h Q := G.run (by decide +kernel) hw
theorem B_Model_crossingsOf_28 {d mc ms cs ss : Nat} {L : List (Option Value)} {st : List Value} {h : g_H} {Q : g_Po} (hw : g_wp Model_crossingsOf d mc ms Q 38 [(28, 1, 0, 0, 0, 0, .iload_n 2), (29, 1, 0, 0, 0, 0, .aload_n 0), (30, 1, 0, 0, 0, 0, .iload_n 1), (31, 1, 0, 0, 0, 0, .iload_n 3), (32, 1, 0, 0, 0, 0, .iload_n 1), (33, 2, 0, 0, 0, 0, .iload 4), (35, 3, 173, 7, 4221, 4, .invokevirtual 213)] cs ss L st h) : G Model_crossingsOf d mc ms cs ss 28 L st h Q := G.run (by decide +kernel) hw
theorem B_Model_crossingsOf_38 {d mc ms cs ss : Nat} {L : List (Option Value)} {st : List Value} {h : g_H} {Q : g_Po} (hw : g_wp Model_crossingsOf d mc ms Q 41 [(38, 3, 45, 0, 0, 0, .ifCond .eq 7)] cs ss L st h) : G Model_crossingsOf d mc ms cs ss 38 L st h Q := G.run (by decide +kernel) hw
theorem B_Model_crossingsOf_41 {d mc ms cs ss : Nat} {L : List (Option Value)} {st : List Value} {h : g_H} {Q : g_Po} (hw : g_wp Model_crossingsOf d mc ms Q 45 [(41, 1, 0, 0, 0, 1, .iconst 1), (42, 3, 46, 0, 0, 0, .goto 4)] cs ss L st h) : G Model_crossingsOf d mc ms cs ss 41 L st h Q := G.run (by decide +kernel) hw
theorem B_Model_crossingsOf_45 {d mc ms cs ss : Nat} {L : List (Option Value)} {st : List Value} {h : g_H} {Q : g_Po} (hw : g_wp Model_crossingsOf d mc ms Q 46 [(45, 1, 0, 0, 0, 0, .iconst 0)] cs ss L st h) : G Model_crossingsOf d mc ms cs ss 45 L st h Q := G.run (by decide +kernel) hw
theorem B_Model_crossingsOf_46 {d mc ms cs ss : Nat} {L : List (Option Value)} {st : List Value} {h : g_H} {Q : g_Po} (hw : g_wp Model_crossingsOf d mc ms Q 54 [(46, 1, 0, 0, 0, 0, .iadd), (47, 1, 0, 0, 0, 0, .istore_n 2), (48, 3, 0, 0, 0, 1, .iinc 4 1), (51, 3, 18, 0, 0, 0, .goto (-33))] cs ss L st h) : G Model_crossingsOf d mc ms cs ss 46 L st h Q := G.run (by decide +kernel) hw
theorem B_Model_crossingsOf_54 {d mc ms cs ss : Nat} {L : List (Option Value)} {st : List Value} {h : g_H} {Q : g_Po} (hw : g_wp Model_crossingsOf d mc ms Q 60 [(54, 3, 0, 0, 0, 1, .iinc 3 1), (57, 3, 4, 0, 0, 0, .goto (-53))] cs ss L st h) : G Model_crossingsOf d mc ms cs ss 54 L st h Q := G.run (by decide +kernel) hw
theorem B_Model_crossingsOf_60 {d mc ms cs ss : Nat} {L : List (Option Value)} {st : List Value} {h : g_H} {Q : g_Po} (hw : g_wp Model_crossingsOf d mc ms Q 62 [(60, 1, 0, 0, 0, 0, .iload_n 2), (61, 1, 0, 0, 0, 0, .ireturn)] cs ss L st h) : G Model_crossingsOf d mc ms cs ss 60 L st h Q := G.run (by decide +kernel) hw
/-! blocks of Model_crossingsOfBoth -/
theorem ml_Model_crossingsOfBoth : (g_m Model_crossingsOfBoth).2.2.1 = 6 := rfl
theorem rt_Model_crossingsOfBoth : (g_m Model_crossingsOfBoth).2.2.2.1 = (some .int) := rfl
theorem B_Model_crossingsOfBoth_0 {d mc ms cs ss : Nat} {L : List (Option Value)} {st : List Value} {h : g_H} {Q : g_Po} (hw : g_wp Model_crossingsOfBoth d mc ms Q 5 [(0, 1, 0, 0, 0, 0, .iconst 0), (1, 1, 0, 0, 0, 0, .istore_n 3), (2, 1, 0, 0, 0, 0, .iconst 0), (3, 2, 0, 0, 0, 0, .istore 4)] cs ss L st h) : G Model_crossingsOfBoth d mc ms cs ss 0 L st h Q := G.run (by decide +kernel) hw
theorem B_Model_crossingsOfBoth_5 {d mc ms cs ss : Nat} {L : List (Option Value)} {st : List Value} {h : g_H} {Q : g_Po} (hw : g_wp Model_crossingsOfBoth d mc ms Q 12 [(5, 2, 0, 0, 0, 0, .iload 4), (7, 1, 0, 0, 0, 0, .aload_n 0), (8, 1, 0, 0, 0, 0, .iload_n 1), (9, 3, 122, 7, 4203, 1, .invokevirtual 200)] cs ss L st h) : G Model_crossingsOfBoth d mc ms cs ss 5 L st h Q := G.run (by decide +kernel) hw
theorem B_Model_crossingsOfBoth_12 {d mc ms cs ss : Nat} {L : List (Option Value)} {st : List Value} {h : g_H} {Q : g_Po} (hw : g_wp Model_crossingsOfBoth d mc ms Q 15 [(12, 3, 61, 0, 0, 0, .if_icmp .ge 49)] cs ss L st h) : G Model_crossingsOfBoth d mc ms cs ss 12 L st h Q := G.run (by decide +kernel) hw
theorem B_Model_crossingsOfBoth_15 {d mc ms cs ss : Nat} {L : List (Option Value)} {st : List Value} {h : g_H} {Q : g_Po} (hw : g_wp Model_crossingsOfBoth d mc ms Q 18 [(15, 1, 0, 0, 0, 0, .iconst 0), (16, 2, 0, 0, 0, 0, .istore 5)] cs ss L st h) : G Model_crossingsOfBoth d mc ms cs ss 15 L st h Q := G.run (by decide +kernel) hw
theorem B_Model_crossingsOfBoth_18 {d mc ms cs ss : Nat} {L : List (Option Value)} {st : List Value} {h : g_H} {Q : g_Po} (hw : g_wp Model_crossingsOfBoth d mc ms Q 25 [(18, 2, 0, 0, 0, 0, .iload 5), (20, 1, 0, 0, 0, 0, .aload_n 0), (21, 1, 0, 0, 0, 0, .iload_n 2), (22, 3, 122, 7, 4203, 1, .invokevirtual 200)] cs ss L st h) : G Model_crossingsOfBoth d mc ms cs ss 18 L st h Q := G.run (by decide +kernel) hw
theorem B_Model_crossingsOfBoth_25 {d mc ms cs ss : Nat} {L : List (Option Value)} {st : List Value} {h : g_H} {Q : g_Po} (hw : g_wp Model_crossingsOfBoth d mc ms Q 28 [(25, 3, 55, 0, 0, 0, .if_icmp .ge 30)] cs ss L st h) : G Model_crossingsOfBoth d mc ms cs ss 25 L st h Q := G.run (by decide +kernel) hw
theorem B_Model_crossingsOfBoth_28 {d mc ms cs ss : Nat} {L : List (Option Value)} {st : List Value} {h : g_H} {Q : g_Po} (hw : g_wp Model_crossingsOfBoth d mc ms Q 39 [(28, 1, 0, 0, 0, 0, .iload_n 3), (29, 1, 0, 0, 0, 0, .aload_n 0), (30, 1, 0, 0, 0, 0, .iload_n 1), (31, 2, 0, 0, 0, 0, .iload 4), (33, 1, 0, 0, 0, 0, .iload_n 2), (34, 2, 0, 0, 0, 0, .iload 5), (36, 3, 173, 7, 4221, 4, .invokevirtual 213)] cs ss L st h) : G Model_crossingsOfBoth d mc ms cs ss 28 L st h Q := G.run (by decide +kernel) hw
theorem B_Model_crossingsOfBoth_39 {d mc ms cs ss : Nat} {L : List (Option Value)} {st : List Value} {h : g_H} {Q : g_Po} (hw : g_wp Model_crossingsOfBoth d mc ms Q 42 [(39, 3, 46, 0, 0, 0, .ifCond .eq 7)] cs ss L st h) : G Model_crossingsOfBoth d mc ms cs ss 39 L st h Q := G.run (by decide +kernel) hw
theorem B_Model_crossingsOfBoth_42 {d mc ms cs ss : Nat} {L : List (Option Value)} {st : List Value} {h : g_H} {Q : g_Po} (hw : g_wp Model_crossingsOfBoth d mc ms Q 46 [(42, 1, 0, 0, 0, 1, .iconst 1), (43, 3, 47, 0, 0, 0, .goto 4)] cs ss L st h) : G Model_crossingsOfBoth d mc ms cs ss 42 L st h Q := G.run (by decide +kernel) hw
theorem B_Model_crossingsOfBoth_46 {d mc ms cs ss : Nat} {L : List (Option Value)} {st : List Value} {h : g_H} {Q : g_Po} (hw : g_wp Model_crossingsOfBoth d mc ms Q 47 [(46, 1, 0, 0, 0, 0, .iconst 0)] cs ss L st h) : G Model_crossingsOfBoth d mc ms cs ss 46 L st h Q := G.run (by decide +kernel) hw
theorem B_Model_crossingsOfBoth_47 {d mc ms cs ss : Nat} {L : List (Option Value)} {st : List Value} {h : g_H} {Q : g_Po} (hw : g_wp Model_crossingsOfBoth d mc ms Q 55 [(47, 1, 0, 0, 0, 0, .iadd), (48, 1, 0, 0, 0, 0, .istore_n 3), (49, 3, 0, 0, 0, 1, .iinc 5 1), (52, 3, 18, 0, 0, 0, .goto (-34))] cs ss L st h) : G Model_crossingsOfBoth d mc ms cs ss 47 L st h Q := G.run (by decide +kernel) hw
theorem B_Model_crossingsOfBoth_55 {d mc ms cs ss : Nat} {L : List (Option Value)} {st : List Value} {h : g_H} {Q : g_Po} (hw : g_wp Model_crossingsOfBoth d mc ms Q 61 [(55, 3, 0, 0, 0, 1, .iinc 4 1), (58, 3, 5, 0, 0, 0, .goto (-53))] cs ss L st h) : G Model_crossingsOfBoth d mc ms cs ss 55 L st h Q := G.run (by decide +kernel) hw
theorem B_Model_crossingsOfBoth_61 {d mc ms cs ss : Nat} {L : List (Option Value)} {st : List Value} {h : g_H} {Q : g_Po} (hw : g_wp Model_crossingsOfBoth d mc ms Q 63 [(61, 1, 0, 0, 0, 0, .iload_n 3), (62, 1, 0, 0, 0, 0, .ireturn)] cs ss L st h) : G Model_crossingsOfBoth d mc ms cs ss 61 L st h Q := G.run (by decide +kernel) hw
/-! blocks of Model_bound -/
theorem ml_Model_bound : (g_m Model_bound).2.2.1 = 7 := rfl
theorem rt_Model_bound : (g_m Model_bound).2.2.2.1 = (some .int) := rfl
theorem B_Model_bound_0 {d mc ms cs ss : Nat} {L : List (Option Value)} {st : List Value} {h : g_H} {Q : g_Po} (hw : g_wp Model_bound d mc ms Q 4 [(0, 1, 0, 0, 0, 0, .iload_n 3), (1, 3, 10, 0, 0, 0, .ifCond .eq 9)] cs ss L st h) : G Model_bound d mc ms cs ss 0 L st h Q := G.run (by decide +kernel) hw
theorem B_Model_bound_4 {d mc ms cs ss : Nat} {L : List (Option Value)} {st : List Value} {h : g_H} {Q : g_Po} (hw : g_wp Model_bound d mc ms Q 10 [(4, 3, 0, 0, 0, 999, .sipush 999), (7, 3, 11, 0, 0, 0, .goto 4)] cs ss L st h) : G Model_bound d mc ms cs ss 4 L st h Q := G.run (by decide +kernel) hw
theorem B_Model_bound_10 {d mc ms cs ss : Nat} {L : List (Option Value)} {st : List Value} {h : g_H} {Q : g_Po} (hw : g_wp Model_bound d mc ms Q 11 [(10, 1, 0, 0, 0, 0, .iconst 0)] cs ss L st h) : G Model_bound d mc ms cs ss 10 L st h Q := G.run (by decide +kernel) hw
theorem B_Model_bound_11 {d mc ms cs ss : Nat} {L : List (Option Value)} {st : List Value} {h : g_H} {Q : g_Po} (hw : g_wp Model_bound d mc ms Q 16 [(11, 2, 0, 0, 0, 0, .istore 4), (13, 1, 0, 0, 0, 0, .iconst 0), (14, 2, 0, 0, 0, 0, .istore 5)] cs ss L st h) : G Model_bound d mc ms cs ss 11 L st h Q := G.run (by decide +kernel) hw
theorem B_Model_bound_16 {d mc ms cs ss : Nat} {L : List (Option Value)} {st : List Value} {h : g_H} {Q : g_Po} (hw : g_wp Model_bound d mc ms Q 23 [(16, 2, 0, 0, 0, 0, .iload 5), (18, 1, 0, 0, 0, 0, .aload_n 0), (19, 1, 0, 0, 0, 0, .iload_n 1), (20, 3, 119, 7, 4047, 1, .invokevirtual 57)] cs ss L st h) : G Model_bound d mc ms cs ss 16 L st h Q := G.run (by decide +kernel) hw
theorem B_Model_bound_23 {d mc ms cs ss : Nat} {L : List (Option Value)} {st : List Value} {h : g_H} {Q : g_Po} (hw : g_wp Model_bound d mc ms Q 26 [(23, 3, 98, 0, 0, 0, .if_icmp .ge 75)] cs ss L st h) : G Model_bound d mc ms cs ss 23 L st h Q := G.run (by decide +kernel) hw
theorem B_Model_bound_26 {d mc ms cs ss : Nat} {L : List (Option Value)} {st : List Value} {h : g_H} {Q : g_Po} (hw : g_wp Model_bound d mc ms Q 30 [(26, 1, 0, 0, 0, 0, .iload_n 2), (27, 3, 43, 0, 0, 0, .ifCond .eq 16)] cs ss L st h) : G Model_bound d mc ms cs ss 26 L st h Q := G.run (by decide +kernel) hw
theorem B_Model_bound_30 {d mc ms cs ss : Nat} {L : List (Option Value)} {st : List Value} {h : g_H} {Q : g_Po} (hw : g_wp Model_bound d mc ms Q 37 [(30, 1, 0, 0, 0, 0, .aload_n 0), (31, 1, 0, 0, 0, 0, .iload_n 1), (32, 2, 0, 0, 0, 0, .iload 5), (34, 3, 121, 7, 4051, 2, .invokevirtual 95)] cs ss L st h) : G Model_bound d mc ms cs ss 30 L st h Q := G.run (by decide +kernel) hw
theorem B_Model_bound_37 {d mc ms cs ss : Nat} {L : List (Option Value)} {st : List Value} {h : g_H} {Q : g_Po} (hw : g_wp Model_bound d mc ms Q 40 [(37, 3, 114, 0, 4058, 1, .invokestatic 64)] cs ss L st h) : G Model_bound d mc ms cs ss 37 L st h Q := G.run (by decide +kernel) hw
theorem B_Model_bound_40 {d mc ms cs ss : Nat} {L : List (Option Value)} {st : List Value} {h : g_H} {Q : g_Po} (hw : g_wp Model_bound d mc ms Q 43 [(40, 3, 53, 0, 0, 0, .goto 13)] cs ss L st h) : G Model_bound d mc ms cs ss 40 L st h Q := G.run (by decide +kernel) hw
theorem B_Model_bound_43 {d mc ms cs ss : Nat} {L : List (Option Value)} {st : List Value} {h : g_H} {Q : g_Po} (hw : g_wp Model_bound d mc ms Q 50 [(43, 1, 0, 0, 0, 0, .aload_n 0), (44, 1, 0, 0, 0, 0, .iload_n 1), (45, 2, 0, 0, 0, 0, .iload 5), (47, 3, 121, 7, 4051, 2, .invokevirtual 95)] cs ss L st h) : G Model_bound d mc ms cs ss 43 L st h Q := G.run (by decide +kernel) hw
theorem B_Model_bound_50 {d mc ms cs ss : Nat} {L : List (Option Value)} {st : List Value} {h : g_H} {Q : g_Po} (hw : g_wp Model_bound d mc ms Q 53 [(50, 3, 115, 0, 4061, 1, .invokestatic 67)] cs ss L st h) : G Model_bound d mc ms cs ss 50 L st h Q := G.run (by decide +kernel) hw
theorem B_Model_bound_53 {d mc ms cs ss : Nat} {L : List (Option Value)} {st : List Value} {h : g_H} {Q : g_Po} (hw : g_wp Model_bound d mc ms Q 59 [(53, 2, 0, 0, 0, 0, .istore 6), (55, 1, 0, 0, 0, 0, .iload_n 3), (56, 3, 76, 0, 0, 0, .ifCond .eq 20)] cs ss L st h) : G Model_bound d mc ms cs ss 53 L st h Q := G.run (by decide +kernel) hw
theorem B_Model_bound_59 {d mc ms cs ss : Nat} {L : List (Option Value)} {st : List Value} {h : g_H} {Q : g_Po} (hw : g_wp Model_bound d mc ms Q 66 [(59, 2, 0, 0, 0, 0, .iload 6), (61, 2, 0, 0, 0, 0, .iload 4), (63, 3, 71, 0, 0, 0, .if_icmp .ge 8)] cs ss L st h) : G Model_bound d mc ms cs ss 59 L st h Q := G.run (by decide +kernel) hw
theorem B_Model_bound_66 {d mc ms cs ss : Nat} {L : List (Option Value)} {st : List Value} {h : g_H} {Q : g_Po} (hw : g_wp Model_bound d mc ms Q 71 [(66, 2, 0, 0, 0, 0, .iload 6), (68, 3, 90, 0, 0, 0, .goto 22)] cs ss L st h) : G Model_bound d mc ms cs ss 66 L st h Q := G.run (by decide +kernel) hw
theorem B_Model_bound_71 {d mc ms cs ss : Nat} {L : List (Option Value)} {st : List Value} {h : g_H} {Q : g_Po} (hw : g_wp Model_bound d mc ms Q 76 [(71, 2, 0, 0, 0, 0, .iload 4), (73, 3, 90, 0, 0, 0, .goto 17)] cs ss L st h) : G Model_bound d mc ms cs ss 71 L st h Q := G.run (by decide +kernel) hw
theorem B_Model_bound_76 {d mc ms cs ss : Nat} {L : List (Option Value)} {st : List Value} {h : g_H} {Q : g_Po} (hw : g_wp Model_bound d mc ms Q 83 [(76, 2, 0, 0, 0, 0, .iload 6), (78, 2, 0, 0, 0, 0, .iload 4), (80, 3, 88, 0, 0, 0, .if_icmp .le 8)] cs ss L st h) : G Model_bound d mc ms cs ss 76 L st h Q := G.run (by decide +kernel) hw
theorem B_Model_bound_83 {d mc ms cs ss : Nat} {L : List (Option Value)} {st : List Value} {h : g_H} {Q : g_Po} (hw : g_wp Model_bound d mc ms Q 88 [(83, 2, 0, 0, 0, 0, .iload 6), (85, 3, 90, 0, 0, 0, .goto 5)] cs ss L st h) : G Model_bound d mc ms cs ss 83 L st h Q := G.run (by decide +kernel) hw
theorem B_Model_bound_88 {d mc ms cs ss : Nat} {L : List (Option Value)} {st : List Value} {h : g_H} {Q : g_Po} (hw : g_wp Model_bound d mc ms Q 90 [(88, 2, 0, 0, 0, 0, .iload 4)] cs ss L st h) : G Model_bound d mc ms cs ss 88 L st h Q := G.run (by decide +kernel) hw
theorem B_Model_bound_90 {d mc ms cs ss : Nat} {L : List (Option Value)} {st : List Value} {h : g_H} {Q : g_Po} (hw : g_wp Model_bound d mc ms Q 98 [(90, 2, 0, 0, 0, 0, .istore 4), (92, 3, 0, 0, 0, 1, .iinc 5 1), (95, 3, 16, 0, 0, 0, .goto (-79))] cs ss L st h) : G Model_bound d mc ms cs ss 90 L st h Q := G.run (by decide +kernel) hw
theorem B_Model_bound_98 {d mc ms cs ss : Nat} {L : List (Option Value)} {st : List Value} {h : g_H} {Q : g_Po} (hw : g_wp Model_bound d mc ms Q 101 [(98, 2, 0, 0, 0, 0, .iload 4), (100, 1, 0, 0, 0, 0, .ireturn)] cs ss L st h) : G Model_bound d mc ms cs ss 98 L st h Q := G.run (by decide +kernel) hw
/-! blocks of Model_ofStroke -/
theorem ml_Model_ofStroke : (g_m Model_ofStroke).2.2.1 = 3 := rfl
theorem rt_Model_ofStroke : (g_m Model_ofStroke).2.2.2.1 = (some .int) := rfl
theorem B_Model_ofStroke_0 {d mc ms cs ss : Nat} {L : List (Option Value)} {st : List Value} {h : g_H} {Q : g_Po} (hw : g_wp Model_ofStroke d mc ms Q 40 [(0, 1, 0, 0, 0, 0, .iload_n 2), (1, 39, 0, 0, 0, 0, .tableswitch 84 0 5 #[39, 45, 52, 58, 67, 78])] cs ss L st h) : G Model_ofStroke d mc ms cs ss 0 L st h Q := G.run (by decide +kernel) hw
theorem B_Model_ofStroke_40 {d mc ms cs ss : Nat} {L : List (Option Value)} {st : List Value} {h : g_H} {Q : g_Po} (hw : g_wp Model_ofStroke d mc ms Q 45 [(40, 1, 0, 0, 0, 0, .aload_n 0), (41, 1, 0, 0, 0, 0, .iload_n 1), (42, 3, 119, 7, 4047, 1, .invokevirtual 57)] cs ss L st h) : G Model_ofStroke d mc ms cs ss 40 L st h Q := G.run (by decide +kernel) hw
theorem B_Model_ofStroke_45 {d mc ms cs ss : Nat} {L : List (Option Value)} {st : List Value} {h : g_H} {Q : g_Po} (hw : g_wp Model_ofStroke d mc ms Q 46 [(45, 1, 0, 0, 0, 0, .ireturn)] cs ss L st h) : G Model_ofStroke d mc ms cs ss 45 L st h Q := G.run (by decide +kernel) hw
theorem B_Model_ofStroke_46 {d mc ms cs ss : Nat} {L : List (Option Value)} {st : List Value} {h : g_H} {Q : g_Po} (hw : g_wp Model_ofStroke d mc ms Q 52 [(46, 1, 0, 0, 0, 0, .aload_n 0), (47, 1, 0, 0, 0, 0, .iload_n 1), (48, 1, 0, 0, 0, 1, .iconst 1), (49, 3, 117, 7, 4039, 2, .invokevirtual 53)] cs ss L st h) : G Model_ofStroke d mc ms cs ss 46 L st h Q := G.run (by decide +kernel) hw
theorem B_Model_ofStroke_52 {d mc ms cs ss : Nat} {L : List (Option Value)} {st : List Value} {h : g_H} {Q : g_Po} (hw : g_wp Model_ofStroke d mc ms Q 53 [(52, 1, 0, 0, 0, 0, .ireturn)] cs ss L st h) : G Model_ofStroke d mc ms cs ss 52 L st h Q := G.run (by decide +kernel) hw
theorem B_Model_ofStroke_53 {d mc ms cs ss : Nat} {L : List (Option Value)} {st : List Value} {h : g_H} {Q : g_Po} (hw : g_wp Model_ofStroke d mc ms Q 58 [(53, 1, 0, 0, 0, 0, .aload_n 0), (54, 1, 0, 0, 0, 0, .iload_n 1), (55, 3, 169, 7, 4199, 1, .invokevirtual 216)] cs ss L st h) : G Model_ofStroke d mc ms cs ss 53 L st h Q := G.run (by decide +kernel) hw
theorem B_Model_ofStroke_58 {d mc ms cs ss : Nat} {L : List (Option Value)} {st : List Value} {h : g_H} {Q : g_Po} (hw : g_wp Model_ofStroke d mc ms Q 59 [(58, 1, 0, 0, 0, 0, .ireturn)] cs ss L st h) : G Model_ofStroke d mc ms cs ss 58 L st h Q := G.run (by decide +kernel) hw
theorem B_Model_ofStroke_59 {d mc ms cs ss : Nat} {L : List (Option Value)} {st : List Value} {h : g_H} {Q : g_Po} (hw : g_wp Model_ofStroke d mc ms Q 64 [(59, 1, 0, 0, 0, 0, .aload_n 0), (60, 1, 0, 0, 0, 0, .iload_n 1), (61, 3, 170, 7, 4210, 1, .invokevirtual 219)] cs ss L st h) : G Model_ofStroke d mc ms cs ss 59 L st h Q := G.run (by decide +kernel) hw
theorem B_Model_ofStroke_64 {d mc ms cs ss : Nat} {L : List (Option Value)} {st : List Value} {h : g_H} {Q : g_Po} (hw : g_wp Model_ofStroke d mc ms Q 67 [(64, 3, 124, 0, 4075, 1, .invokestatic 105)] cs ss L st h) : G Model_ofStroke d mc ms cs ss 64 L st h Q := G.run (by decide +kernel) hw
theorem B_Model_ofStroke_67 {d mc ms cs ss : Nat} {L : List (Option Value)} {st : List Value} {h : g_H} {Q : g_Po} (hw : g_wp Model_ofStroke d mc ms Q 68 [(67, 1, 0, 0, 0, 0, .ireturn)] cs ss L st h) : G Model_ofStroke d mc ms cs ss 67 L st h Q := G.run (by decide +kernel) hw
theorem B_Model_ofStroke_68 {d mc ms cs ss : Nat} {L : List (Option Value)} {st : List Value} {h : g_H} {Q : g_Po} (hw : g_wp Model_ofStroke d mc ms Q 73 [(68, 1, 0, 0, 0, 0, .aload_n 0), (69, 1, 0, 0, 0, 0, .iload_n 1), (70, 3, 170, 7, 4210, 1, .invokevirtual 219)] cs ss L st h) : G Model_ofStroke d mc ms cs ss 68 L st h Q := G.run (by decide +kernel) hw
theorem B_Model_ofStroke_73 {d mc ms cs ss : Nat} {L : List (Option Value)} {st : List Value} {h : g_H} {Q : g_Po} (hw : g_wp Model_ofStroke d mc ms Q 76 [(73, 3, 171, 0, 4214, 1, .invokestatic 206)] cs ss L st h) : G Model_ofStroke d mc ms cs ss 73 L st h Q := G.run (by decide +kernel) hw
theorem B_Model_ofStroke_76 {d mc ms cs ss : Nat} {L : List (Option Value)} {st : List Value} {h : g_H} {Q : g_Po} (hw : g_wp Model_ofStroke d mc ms Q 79 [(76, 1, 0, 0, 0, 2, .iconst 2), (77, 1, 0, 0, 0, 0, .iadd), (78, 1, 0, 0, 0, 0, .ireturn)] cs ss L st h) : G Model_ofStroke d mc ms cs ss 76 L st h Q := G.run (by decide +kernel) hw
theorem B_Model_ofStroke_79 {d mc ms cs ss : Nat} {L : List (Option Value)} {st : List Value} {h : g_H} {Q : g_Po} (hw : g_wp Model_ofStroke d mc ms Q 84 [(79, 1, 0, 0, 0, 0, .aload_n 0), (80, 1, 0, 0, 0, 0, .iload_n 1), (81, 3, 174, 7, 4217, 1, .invokevirtual 222)] cs ss L st h) : G Model_ofStroke d mc ms cs ss 79 L st h Q := G.run (by decide +kernel) hw
theorem B_Model_ofStroke_84 {d mc ms cs ss : Nat} {L : List (Option Value)} {st : List Value} {h : g_H} {Q : g_Po} (hw : g_wp Model_ofStroke d mc ms Q 85 [(84, 1, 0, 0, 0, 0, .ireturn)] cs ss L st h) : G Model_ofStroke d mc ms cs ss 84 L st h Q := G.run (by decide +kernel) hw
theorem B_Model_ofStroke_85 {d mc ms cs ss : Nat} {L : List (Option Value)} {st : List Value} {h : g_H} {Q : g_Po} (hw : g_wp Model_ofStroke d mc ms Q 93 [(85, 1, 0, 0, 0, 0, .aload_n 0), (86, 1, 0, 0, 0, 0, .iload_n 1), (87, 1, 0, 0, 0, 0, .iload_n 2), (88, 2, 0, 0, 0, 8, .bipush 8), (90, 3, 97, 0, 0, 0, .if_icmp .ge 7)] cs ss L st h) : G Model_ofStroke d mc ms cs ss 85 L st h Q := G.run (by decide +kernel) hw
theorem B_Model_ofStroke_93 {d mc ms cs ss : Nat} {L : List (Option Value)} {st : List Value} {h : g_H} {Q : g_Po} (hw : g_wp Model_ofStroke d mc ms Q 97 [(93, 1, 0, 0, 0, 1, .iconst 1), (94, 3, 98, 0, 0, 0, .goto 4)] cs ss L st h) : G Model_ofStroke d mc ms cs ss 93 L st h Q := G.run (by decide +kernel) hw
theorem B_Model_ofStroke_97 {d mc ms cs ss : Nat} {L : List (Option Value)} {st : List Value} {h : g_H} {Q : g_Po} (hw : g_wp Model_ofStroke d mc ms Q 98 [(97, 1, 0, 0, 0, 0, .iconst 0)] cs ss L st h) : G Model_ofStroke d mc ms cs ss 97 L st h Q := G.run (by decide +kernel) hw
theorem B_Model_ofStroke_98 {d mc ms cs ss : Nat} {L : List (Option Value)} {st : List Value} {h : g_H} {Q : g_Po} (hw : g_wp Model_ofStroke d mc ms Q 104 [(98, 1, 0, 0, 0, 0, .iload_n 2), (99, 1, 0, 0, 0, 2, .iconst 2), (100, 1, 0, 0, 0, 0, .irem), (101, 3, 108, 0, 0, 0, .ifCond .ne 7)] cs ss L st h) : G Model_ofStroke d mc ms cs ss 98 L st h Q := G.run (by decide +kernel) hw
theorem B_Model_ofStroke_104 {d mc ms cs ss : Nat} {L : List (Option Value)} {st : List Value} {h : g_H} {Q : g_Po} (hw : g_wp Model_ofStroke d mc ms Q 108 [(104, 1, 0, 0, 0, 1, .iconst 1), (105, 3, 109, 0, 0, 0, .goto 4)] cs ss L st h) : G Model_ofStroke d mc ms cs ss 104 L st h Q := G.run (by decide +kernel) hw
theorem B_Model_ofStroke_108 {d mc ms cs ss : Nat} {L : List (Option Value)} {st : List Value} {h : g_H} {Q : g_Po} (hw : g_wp Model_ofStroke d mc ms Q 109 [(108, 1, 0, 0, 0, 0, .iconst 0)] cs ss L st h) : G Model_ofStroke d mc ms cs ss 108 L st h Q := G.run (by decide +kernel) hw
theorem B_Model_ofStroke_109 {d mc ms cs ss : Nat} {L : List (Option Value)} {st : List Value} {h : g_H} {Q : g_Po} (hw : g_wp Model_ofStroke d mc ms Q 112 [(109, 3, 176, 7, 4228, 3, .invokevirtual 225)] cs ss L st h) : G Model_ofStroke d mc ms cs ss 109 L st h Q := G.run (by decide +kernel) hw
theorem B_Model_ofStroke_112 {d mc ms cs ss : Nat} {L : List (Option Value)} {st : List Value} {h : g_H} {Q : g_Po} (hw : g_wp Model_ofStroke d mc ms Q 113 [(112, 1, 0, 0, 0, 0, .ireturn)] cs ss L st h) : G Model_ofStroke d mc ms cs ss 112 L st h Q := G.run (by decide +kernel) hw
/-! blocks of Model_isAhead -/
theorem ml_Model_isAhead : (g_m Model_isAhead).2.2.1 = 6 := rfl
theorem rt_Model_isAhead : (g_m Model_isAhead).2.2.2.1 = (some .boolean) := rfl
theorem B_Model_isAhead_0 {d mc ms cs ss : Nat} {L : List (Option Value)} {st : List Value} {h : g_H} {Q : g_Po} (hw : g_wp Model_isAhead d mc ms Q 4 [(0, 1, 0, 0, 0, 0, .iload_n 0), (1, 3, 115, 0, 4061, 1, .invokestatic 67)] cs ss L st h) : G Model_isAhead d mc ms cs ss 0 L st h Q := G.run (by decide +kernel) hw
theorem B_Model_isAhead_4 {d mc ms cs ss : Nat} {L : List (Option Value)} {st : List Value} {h : g_H} {Q : g_Po} (hw : g_wp Model_isAhead d mc ms Q 8 [(4, 1, 0, 0, 0, 0, .iload_n 1), (5, 3, 115, 0, 4061, 1, .invokestatic 67)] cs ss L st h) : G Model_isAhead d mc ms cs ss 4 L st h Q := G.run (by decide +kernel) hw
theorem B_Model_isAhead_8 {d mc ms cs ss : Nat} {L : List (Option Value)} {st : List Value} {h : g_H} {Q : g_Po} (hw : g_wp Model_isAhead d mc ms Q 11 [(8, 3, 15, 0, 0, 0, .if_icmp .gt 7)] cs ss L st h) : G Model_isAhead d mc ms cs ss 8 L st h Q := G.run (by decide +kernel) hw
theorem B_Model_isAhead_11 {d mc ms cs ss : Nat} {L : List (Option Value)} {st : List Value} {h : g_H} {Q : g_Po} (hw : g_wp Model_isAhead d mc ms Q 15 [(11, 1, 0, 0, 0, 0, .iload_n 0), (12, 3, 16, 0, 0, 0, .goto 4)] cs ss L st h) : G Model_isAhead d mc ms cs ss 11 L st h Q := G.run (by decide +kernel) hw
theorem B_Model_isAhead_15 {d mc ms cs ss : Nat} {L : List (Option Value)} {st : List Value} {h : g_H} {Q : g_Po} (hw : g_wp Model_isAhead d mc ms Q 16 [(15, 1, 0, 0, 0, 0, .iload_n 1)] cs ss L st h) : G Model_isAhead d mc ms cs ss 15 L st h Q := G.run (by decide +kernel) hw
theorem B_Model_isAhead_16 {d mc ms cs ss : Nat} {L : List (Option Value)} {st : List Value} {h : g_H} {Q : g_Po} (hw : g_wp Model_isAhead d mc ms Q 22 [(16, 2, 0, 0, 0, 0, .istore 4), (18, 1, 0, 0, 0, 0, .iload_n 0), (19, 3, 115, 0, 4061, 1, .invokestatic 67)] cs ss L st h) : G Model_isAhead d mc ms cs ss 16 L st h Q := G.run (by decide +kernel) hw
theorem B_Model_isAhead_22 {d mc ms cs ss : Nat} {L : List (Option Value)} {st : List Value} {h : g_H} {Q : g_Po} (hw : g_wp Model_isAhead d mc ms Q 26 [(22, 1, 0, 0, 0, 0, .iload_n 1), (23, 3, 115, 0, 4061, 1, .invokestatic 67)] cs ss L st h) : G Model_isAhead d mc ms cs ss 22 L st h Q := G.run (by decide +kernel) hw
theorem B_Model_isAhead_26 {d mc ms cs ss : Nat} {L : List (Option Value)} {st : List Value} {h : g_H} {Q : g_Po} (hw : g_wp Model_isAhead d mc ms Q 29 [(26, 3, 33, 0, 0, 0, .if_icmp .gt 7)] cs ss L st h) : G Model_isAhead d mc ms cs ss 26 L st h Q := G.run (by decide +kernel) hw
theorem B_Model_isAhead_29 {d mc ms cs ss : Nat} {L : List (Option Value)} {st : List Value} {h : g_H} {Q : g_Po} (hw : g_wp Model_isAhead d mc ms Q 33 [(29, 1, 0, 0, 0, 0, .iload_n 1), (30, 3, 34, 0, 0, 0, .goto 4)] cs ss L st h) : G Model_isAhead d mc ms cs ss 29 L st h Q := G.run (by decide +kernel) hw
theorem B_Model_isAhead_33 {d mc ms cs ss : Nat} {L : List (Option Value)} {st : List Value} {h : g_H} {Q : g_Po} (hw : g_wp Model_isAhead d mc ms Q 34 [(33, 1, 0, 0, 0, 0, .iload_n 0)] cs ss L st h) : G Model_isAhead d mc ms cs ss 33 L st h Q := G.run (by decide +kernel) hw
theorem B_Model_isAhead_34 {d mc ms cs ss : Nat} {L : List (Option Value)} {st : List Value} {h : g_H} {Q : g_Po} (hw : g_wp Model_isAhead d mc ms Q 41 [(34, 2, 0, 0, 0, 0, .istore 5), (36, 2, 0, 0, 0, 0, .iload 4), (38, 3, 115, 0, 4061, 1, .invokestatic 67)] cs ss L st h) : G Model_isAhead d mc ms cs ss 34 L st h Q := G.run (by decide +kernel) hw
theorem B_Model_isAhead_41 {d mc ms cs ss : Nat} {L : List (Option Value)} {st : List Value} {h : g_H} {Q : g_Po} (hw : g_wp Model_isAhead d mc ms Q 45 [(41, 1, 0, 0, 0, 0, .iload_n 3), (42, 3, 73, 0, 0, 0, .if_icmp .gt 31)] cs ss L st h) : G Model_isAhead d mc ms cs ss 41 L st h Q := G.run (by decide +kernel) hw
theorem B_Model_isAhead_45 {d mc ms cs ss : Nat} {L : List (Option Value)} {st : List Value} {h : g_H} {Q : g_Po} (hw : g_wp Model_isAhead d mc ms Q 50 [(45, 2, 0, 0, 0, 0, .iload 5), (47, 3, 115, 0, 4061, 1, .invokestatic 67)] cs ss L st h) : G Model_isAhead d mc ms cs ss 45 L st h Q := G.run (by decide +kernel) hw
theorem B_Model_isAhead_50 {d mc ms cs ss : Nat} {L : List (Option Value)} {st : List Value} {h : g_H} {Q : g_Po} (hw : g_wp Model_isAhead d mc ms Q 54 [(50, 1, 0, 0, 0, 0, .iload_n 3), (51, 3, 73, 0, 0, 0, .if_icmp .le 22)] cs ss L st h) : G Model_isAhead d mc ms cs ss 50 L st h Q := G.run (by decide +kernel) hw
theorem B_Model_isAhead_54 {d mc ms cs ss : Nat} {L : List (Option Value)} {st : List Value} {h : g_H} {Q : g_Po} (hw : g_wp Model_isAhead d mc ms Q 63 [(54, 2, 0, 0, 0, 0, .iload 4), (56, 2, 0, 0, 0, 0, .iload 5), (58, 1, 0, 0, 0, 0, .iload_n 2), (59, 1, 0, 0, 0, 0, .iload_n 3), (60, 3, 113, 0, 3229, 2, .invokestatic 84)] cs ss L st h) : G Model_isAhead d mc ms cs ss 54 L st h Q := G.run (by decide +kernel) hw
theorem B_Model_isAhead_63 {d mc ms cs ss : Nat} {L : List (Option Value)} {st : List Value} {h : g_H} {Q : g_Po} (hw : g_wp Model_isAhead d mc ms Q 66 [(63, 3, 125, 0, 4072, 3, .invokestatic 101)] cs ss L st h) : G Model_isAhead d mc ms cs ss 63 L st h Q := G.run (by decide +kernel) hw
theorem B_Model_isAhead_66 {d mc ms cs ss : Nat} {L : List (Option Value)} {st : List Value} {h : g_H} {Q : g_Po} (hw : g_wp Model_isAhead d mc ms Q 69 [(66, 3, 73, 0, 0, 0, .ifCond .le 7)] cs ss L st h) : G Model_isAhead d mc ms cs ss 66 L st h Q := G.run (by decide +kernel) hw
theorem B_Model_isAhead_69 {d mc ms cs ss : Nat} {L : List (Option Value)} {st : List Value} {h : g_H} {Q : g_Po} (hw : g_wp Model_isAhead d mc ms Q 73 [(69, 1, 0, 0, 0, 1, .iconst 1), (70, 3, 74, 0, 0, 0, .goto 4)] cs ss L st h) : G Model_isAhead d mc ms cs ss 69 L st h Q := G.run (by decide +kernel) hw
theorem B_Model_isAhead_73 {d mc ms cs ss : Nat} {L : List (Option Value)} {st : List Value} {h : g_H} {Q : g_Po} (hw : g_wp Model_isAhead d mc ms Q 74 [(73, 1, 0, 0, 0, 0, .iconst 0)] cs ss L st h) : G Model_isAhead d mc ms cs ss 73 L st h Q := G.run (by decide +kernel) hw
theorem B_Model_isAhead_74 {d mc ms cs ss : Nat} {L : List (Option Value)} {st : List Value} {h : g_H} {Q : g_Po} (hw : g_wp Model_isAhead d mc ms Q 75 [(74, 1, 0, 0, 0, 0, .ireturn)] cs ss L st h) : G Model_isAhead d mc ms cs ss 74 L st h Q := G.run (by decide +kernel) hw
def sgI (v : Int) : Int := if 0 < v then 1 else if v < 0 then -1 else 0
theorem sgI_bd (v : Int) : -1 ≤ sgI v ∧ sgI v ≤ 1 := by unfold sgI; split <;> (try split) <;> omega
theorem sgI_mul (a b : Int) : sgI a * sgI b < 0 ↔ a * b < 0 := by
  unfold sgI
  rcases Int.lt_trichotomy a 0 with h | h | h
  · rw [if_neg (by omega), if_pos h]
    rcases Int.lt_trichotomy b 0 with k | k | k
    · rw [if_neg (by omega), if_pos k]
      have := Int.mul_pos_of_neg_of_neg h k
      omega
    · subst k; simp
    · rw [if_pos k]
      have := Int.mul_neg_of_neg_of_pos h k
      omega
  · subst h; simp
  · rw [if_pos h]
    rcases Int.lt_trichotomy b 0 with k | k | k
    · rw [if_neg (by omega), if_pos k]
      have := Int.mul_neg_of_pos_of_neg h k
      omega
    · subst k; simp
    · rw [if_pos k]
      have := Int.mul_pos h k
      omega
theorem Mdl_sign_c {d : Nat} {v : Int} {h : g_H} {Q : g_Po} (hv : i32 v) (hQ : Q (some (.int (I (sgI v)))) h) : Call Model_sign d 0 0 [.int (I v)] h Q := by
  unfold sgI at hQ
  refine Call.intro (by rfl) (Nat.le_of_ble_eq_true rfl) ?_
  refine G.eqL (L := [some (.int _)]) rfl ?_
  by_cases c : 0 < v
  · rw [if_pos c] at hQ
    refine B_Model_sign_0 ?_
    simp only [wp_cons, wp_nil, List.getElem?_cons_zero, List.getElem?_cons_succ, List.set_cons_zero, List.set_cons_succ, s_iload_n0, ldI_s, s_ifCond_le, p1_s, true_and, and_true, Nat.le_refl, true_implies, forall_const, not_false_eq_true, false_implies, not_true_eq_false, reduceCtorEq, tl_s, tl_n, rf_s, List.cons_append, List.nil_append, true_or, or_true]
    refine b_le (by omega) (by omega) (fun cc => absurd cc (by omega)) (fun cc => ?_)
    refine B_Model_sign_4 ?_
    simp only [wp_cons, wp_nil, List.getElem?_cons_zero, List.getElem?_cons_succ, List.set_cons_zero, List.set_cons_succ, s_iconst, s_goto, true_and, and_true, Nat.le_refl, true_implies, forall_const, not_false_eq_true, false_implies, not_true_eq_false, reduceCtorEq, tl_s, tl_n, rf_s, List.cons_append, List.nil_append, true_or, or_true]
    refine B_Model_sign_17 ?_
    simp only [wp_cons, wp_nil, List.getElem?_cons_zero, List.getElem?_cons_succ, List.set_cons_zero, List.set_cons_succ, s_ireturn, p1_s, rI_i, rI_z, rI_c, z_01, z_11, rt_Model_sign, true_and, and_true, Nat.le_refl, true_implies, forall_const, not_false_eq_true, false_implies, not_true_eq_false, reduceCtorEq, tl_s, tl_n, rf_s, List.cons_append, List.nil_append, true_or, or_true]
    exact hQ
  · rw [if_neg c] at hQ
    by_cases c2 : v < 0
    · rw [if_pos c2] at hQ
      refine B_Model_sign_0 ?_
      simp only [wp_cons, wp_nil, List.getElem?_cons_zero, List.getElem?_cons_succ, List.set_cons_zero, List.set_cons_succ, s_iload_n0, ldI_s, s_ifCond_le, p1_s, true_and, and_true, Nat.le_refl, true_implies, forall_const, not_false_eq_true, false_implies, not_true_eq_false, reduceCtorEq, tl_s, tl_n, rf_s, List.cons_append, List.nil_append, true_or, or_true]
      refine b_le (by omega) (by omega) (fun cc => ?_) (fun cc => absurd cc (by omega))
      refine B_Model_sign_8 ?_
      simp only [wp_cons, wp_nil, List.getElem?_cons_zero, List.getElem?_cons_succ, List.set_cons_zero, List.set_cons_succ, s_iload_n0, ldI_s, s_ifCond_ge, p1_s, true_and, and_true, Nat.le_refl, true_implies, forall_const, not_false_eq_true, false_implies, not_true_eq_false, reduceCtorEq, tl_s, tl_n, rf_s, List.cons_append, List.nil_append, true_or, or_true]
      refine b_le (by omega) (by omega) (fun cc => absurd cc (by omega)) (fun cc => ?_)
      refine B_Model_sign_12 ?_
      simp only [wp_cons, wp_nil, List.getElem?_cons_zero, List.getElem?_cons_succ, List.set_cons_zero, List.set_cons_succ, s_iconst, s_goto, true_and, and_true, Nat.le_refl, true_implies, forall_const, not_false_eq_true, false_implies, not_true_eq_false, reduceCtorEq, tl_s, tl_n, rf_s, List.cons_append, List.nil_append, true_or, or_true]
      refine B_Model_sign_17 ?_
      simp only [wp_cons, wp_nil, List.getElem?_cons_zero, List.getElem?_cons_succ, List.set_cons_zero, List.set_cons_succ, s_ireturn, p1_s, rI_i, rI_z, rI_c, z_01, z_11, rt_Model_sign, true_and, and_true, Nat.le_refl, true_implies, forall_const, not_false_eq_true, false_implies, not_true_eq_false, reduceCtorEq, tl_s, tl_n, rf_s, List.cons_append, List.nil_append, true_or, or_true]
      exact hQ
    · rw [if_neg c2] at hQ
      refine B_Model_sign_0 ?_
      simp only [wp_cons, wp_nil, List.getElem?_cons_zero, List.getElem?_cons_succ, List.set_cons_zero, List.set_cons_succ, s_iload_n0, ldI_s, s_ifCond_le, p1_s, true_and, and_true, Nat.le_refl, true_implies, forall_const, not_false_eq_true, false_implies, not_true_eq_false, reduceCtorEq, tl_s, tl_n, rf_s, List.cons_append, List.nil_append, true_or, or_true]
      refine b_le (by omega) (by omega) (fun cc => ?_) (fun cc => absurd cc (by omega))
      refine B_Model_sign_8 ?_
      simp only [wp_cons, wp_nil, List.getElem?_cons_zero, List.getElem?_cons_succ, List.set_cons_zero, List.set_cons_succ, s_iload_n0, ldI_s, s_ifCond_ge, p1_s, true_and, and_true, Nat.le_refl, true_implies, forall_const, not_false_eq_true, false_implies, not_true_eq_false, reduceCtorEq, tl_s, tl_n, rf_s, List.cons_append, List.nil_append, true_or, or_true]
      refine b_le (by omega) (by omega) (fun cc => ?_) (fun cc => absurd cc (by omega))
      refine B_Model_sign_16 ?_
      simp only [wp_cons, wp_nil, List.getElem?_cons_zero, List.getElem?_cons_succ, List.set_cons_zero, List.set_cons_succ, s_iconst, true_and, and_true, Nat.le_refl, true_implies, forall_const, not_false_eq_true, false_implies, not_true_eq_false, reduceCtorEq, tl_s, tl_n, rf_s, List.cons_append, List.nil_append, true_or, or_true]
      refine B_Model_sign_17 ?_
      simp only [wp_cons, wp_nil, List.getElem?_cons_zero, List.getElem?_cons_succ, List.set_cons_zero, List.set_cons_succ, s_ireturn, p1_s, rI_i, rI_z, rI_c, z_01, z_11, rt_Model_sign, true_and, and_true, Nat.le_refl, true_implies, forall_const, not_false_eq_true, false_implies, not_true_eq_false, reduceCtorEq, tl_s, tl_n, rf_s, List.cons_append, List.nil_append, true_or, or_true]
      exact hQ
theorem Mdl_crs_c {d : Nat} (d2 : 2 ≤ d) {a b c e : Int} {h : g_H} {Q : g_Po} (ha : pt a) (hb : pt b) (hc : pt c) (he : pt e) (hQ : Q (some (.int (I (bi (pcr a b c e))))) h) : Call Model_isCrossing d 0 0 [.int (I a), .int (I b), .int (I c), .int (I e)] h Q := by
  have d1 : 1 ≤ d := by omega
  have h1 := crs_bd ha hb hc
  have h2 := crs_bd ha hb he
  have h3 := crs_bd hc he ha
  have h4 := crs_bd hc he hb
  have s1 := sgI_bd (crs a b c)
  have s2 := sgI_bd (crs a b e)
  have s3 := sgI_bd (crs c e a)
  have s4 := sgI_bd (crs c e b)
  have m1 := bd_mul (A := 1) (B := 1) s1 s2
  have m2 := bd_mul (A := 1) (B := 1) s3 s4
  have k1 := sgI_mul (crs a b c) (crs a b e)
  have k2 := sgI_mul (crs c e a) (crs c e b)
  refine Call.intro (by rfl) (Nat.le_of_ble_eq_true rfl) ?_
  refine G.eqL (L := [some (.int _), some (.int _), some (.int _), some (.int _)]) rfl ?_
  refine B_Model_isCrossing_0 ?_
  simp only [wp_cons, wp_nil, List.getElem?_cons_zero, List.getElem?_cons_succ, List.set_cons_zero, List.set_cons_succ, s_iload_n0, ldI_s, s_iload_n1, s_iload_n2, s_invokestatic, rc_s, ob_s, List.drop_succ_cons, List.drop_zero, List.take_succ_cons, List.take_zero, List.reverse_cons, List.reverse_nil, List.nil_append, List.cons_append, List.length_cons, List.length_nil, Nat.reduceEqDiff, reduceIte, p1_s, p2_s, l1_s, d1, Int.reduceToNat, Nat.reduceAdd, Nat.reduceLeDiff, true_and, and_true, Nat.le_refl, true_implies, forall_const, not_false_eq_true, false_implies, not_true_eq_false, reduceCtorEq, tl_s, tl_n, rf_s, true_or, or_true]
  refine Mdl_side_c (by omega) ha hb hc ?_
  refine B_Model_isCrossing_6 ?_
  simp only [wp_cons, wp_nil, List.getElem?_cons_zero, List.getElem?_cons_succ, List.set_cons_zero, List.set_cons_succ, s_invokestatic, rc_s, ob_s, List.drop_succ_cons, List.drop_zero, List.take_succ_cons, List.take_zero, List.reverse_cons, List.reverse_nil, List.nil_append, List.cons_append, List.length_cons, List.length_nil, Nat.reduceEqDiff, reduceIte, p1_s, p2_s, l1_s, d1, Int.reduceToNat, Nat.reduceAdd, Nat.reduceLeDiff, true_and, and_true, Nat.le_refl, true_implies, forall_const, not_false_eq_true, false_implies, not_true_eq_false, reduceCtorEq, tl_s, tl_n, rf_s, true_or, or_true]
  refine Mdl_sign_c (by omega) ?_
  refine B_Model_isCrossing_9 ?_
  simp only [wp_cons, wp_nil, List.getElem?_cons_zero, List.getElem?_cons_succ, List.set_cons_zero, List.set_cons_succ, s_iload_n0, ldI_s, s_iload_n1, s_iload_n3, s_invokestatic, rc_s, ob_s, List.drop_succ_cons, List.drop_zero, List.take_succ_cons, List.take_zero, List.reverse_cons, List.reverse_nil, List.nil_append, List.cons_append, List.length_cons, List.length_nil, Nat.reduceEqDiff, reduceIte, p1_s, p2_s, l1_s, d1, Int.reduceToNat, Nat.reduceAdd, Nat.reduceLeDiff, true_and, and_true, Nat.le_refl, true_implies, forall_const, not_false_eq_true, false_implies, not_true_eq_false, reduceCtorEq, tl_s, tl_n, rf_s, true_or, or_true]
  refine Mdl_side_c (by omega) ha hb he ?_
  refine B_Model_isCrossing_15 ?_
  simp only [wp_cons, wp_nil, List.getElem?_cons_zero, List.getElem?_cons_succ, List.set_cons_zero, List.set_cons_succ, s_invokestatic, rc_s, ob_s, List.drop_succ_cons, List.drop_zero, List.take_succ_cons, List.take_zero, List.reverse_cons, List.reverse_nil, List.nil_append, List.cons_append, List.length_cons, List.length_nil, Nat.reduceEqDiff, reduceIte, p1_s, p2_s, l1_s, d1, Int.reduceToNat, Nat.reduceAdd, Nat.reduceLeDiff, true_and, and_true, Nat.le_refl, true_implies, forall_const, not_false_eq_true, false_implies, not_true_eq_false, reduceCtorEq, tl_s, tl_n, rf_s, true_or, or_true]
  refine Mdl_sign_c (by omega) ?_
  by_cases c1 : crs a b c * crs a b e < 0
  · have c1' := k1.mpr c1
    refine B_Model_isCrossing_18 ?_
    simp only [wp_cons, wp_nil, List.getElem?_cons_zero, List.getElem?_cons_succ, List.set_cons_zero, List.set_cons_succ, s_imul, p2_s, I_mul, s_ifCond_ge, p1_s, true_and, and_true, Nat.le_refl, true_implies, forall_const, not_false_eq_true, false_implies, not_true_eq_false, reduceCtorEq, tl_s, tl_n, rf_s, List.cons_append, List.nil_append, true_or, or_true]
    refine b_le (by omega) (by omega) (fun cc => absurd cc (by omega)) (fun cc => ?_)
    refine B_Model_isCrossing_22 ?_
    simp only [wp_cons, wp_nil, List.getElem?_cons_zero, List.getElem?_cons_succ, List.set_cons_zero, List.set_cons_succ, s_iload_n2, ldI_s, s_iload_n3, s_iload_n0, s_invokestatic, rc_s, ob_s, List.drop_succ_cons, List.drop_zero, List.take_succ_cons, List.take_zero, List.reverse_cons, List.reverse_nil, List.nil_append, List.cons_append, List.length_cons, List.length_nil, Nat.reduceEqDiff, reduceIte, p1_s, p2_s, l1_s, d1, Int.reduceToNat, Nat.reduceAdd, Nat.reduceLeDiff, true_and, and_true, Nat.le_refl, true_implies, forall_const, not_false_eq_true, false_implies, not_true_eq_false, reduceCtorEq, tl_s, tl_n, rf_s, true_or, or_true]
    refine Mdl_side_c (by omega) hc he ha ?_
    refine B_Model_isCrossing_28 ?_
    simp only [wp_cons, wp_nil, List.getElem?_cons_zero, List.getElem?_cons_succ, List.set_cons_zero, List.set_cons_succ, s_invokestatic, rc_s, ob_s, List.drop_succ_cons, List.drop_zero, List.take_succ_cons, List.take_zero, List.reverse_cons, List.reverse_nil, List.nil_append, List.cons_append, List.length_cons, List.length_nil, Nat.reduceEqDiff, reduceIte, p1_s, p2_s, l1_s, d1, Int.reduceToNat, Nat.reduceAdd, Nat.reduceLeDiff, true_and, and_true, Nat.le_refl, true_implies, forall_const, not_false_eq_true, false_implies, not_true_eq_false, reduceCtorEq, tl_s, tl_n, rf_s, true_or, or_true]
    refine Mdl_sign_c (by omega) ?_
    refine B_Model_isCrossing_31 ?_
    simp only [wp_cons, wp_nil, List.getElem?_cons_zero, List.getElem?_cons_succ, List.set_cons_zero, List.set_cons_succ, s_iload_n2, ldI_s, s_iload_n3, s_iload_n1, s_invokestatic, rc_s, ob_s, List.drop_succ_cons, List.drop_zero, List.take_succ_cons, List.take_zero, List.reverse_cons, List.reverse_nil, List.nil_append, List.cons_append, List.length_cons, List.length_nil, Nat.reduceEqDiff, reduceIte, p1_s, p2_s, l1_s, d1, Int.reduceToNat, Nat.reduceAdd, Nat.reduceLeDiff, true_and, and_true, Nat.le_refl, true_implies, forall_const, not_false_eq_true, false_implies, not_true_eq_false, reduceCtorEq, tl_s, tl_n, rf_s, true_or, or_true]
    refine Mdl_side_c (by omega) hc he hb ?_
    refine B_Model_isCrossing_37 ?_
    simp only [wp_cons, wp_nil, List.getElem?_cons_zero, List.getElem?_cons_succ, List.set_cons_zero, List.set_cons_succ, s_invokestatic, rc_s, ob_s, List.drop_succ_cons, List.drop_zero, List.take_succ_cons, List.take_zero, List.reverse_cons, List.reverse_nil, List.nil_append, List.cons_append, List.length_cons, List.length_nil, Nat.reduceEqDiff, reduceIte, p1_s, p2_s, l1_s, d1, Int.reduceToNat, Nat.reduceAdd, Nat.reduceLeDiff, true_and, and_true, Nat.le_refl, true_implies, forall_const, not_false_eq_true, false_implies, not_true_eq_false, reduceCtorEq, tl_s, tl_n, rf_s, true_or, or_true]
    refine Mdl_sign_c (by omega) ?_
    by_cases c2 : crs c e a * crs c e b < 0
    · have c2' := k2.mpr c2
      rw [show bi (pcr a b c e) = 1 by simp [bi, pcr, c1, c2]] at hQ
      refine B_Model_isCrossing_40 ?_
      simp only [wp_cons, wp_nil, List.getElem?_cons_zero, List.getElem?_cons_succ, List.set_cons_zero, List.set_cons_succ, s_imul, p2_s, I_mul, s_ifCond_ge, p1_s, true_and, and_true, Nat.le_refl, true_implies, forall_const, not_false_eq_true, false_implies, not_true_eq_false, reduceCtorEq, tl_s, tl_n, rf_s, List.cons_append, List.nil_append, true_or, or_true]
      refine b_le (by omega) (by omega) (fun cc => absurd cc (by omega)) (fun cc => ?_)
      refine B_Model_isCrossing_44 ?_
      simp only [wp_cons, wp_nil, List.getElem?_cons_zero, List.getElem?_cons_succ, List.set_cons_zero, List.set_cons_succ, s_iconst, s_goto, true_and, and_true, Nat.le_refl, true_implies, forall_const, not_false_eq_true, false_implies, not_true_eq_false, reduceCtorEq, tl_s, tl_n, rf_s, List.cons_append, List.nil_append, true_or, or_true]
      refine B_Model_isCrossing_49 ?_
      simp only [wp_cons, wp_nil, List.getElem?_cons_zero, List.getElem?_cons_succ, List.set_cons_zero, List.set_cons_succ, s_ireturn, p1_s, rI_i, rI_z, rI_c, z_01, z_11, rt_Model_isCrossing, true_and, and_true, Nat.le_refl, true_implies, forall_const, not_false_eq_true, false_implies, not_true_eq_false, reduceCtorEq, tl_s, tl_n, rf_s, List.cons_append, List.nil_append, true_or, or_true]
      exact hQ
    · have c2' : ¬ sgI (crs c e a) * sgI (crs c e b) < 0 := fun q => c2 (k2.mp q)
      rw [show bi (pcr a b c e) = 0 by simp [bi, pcr, c2]] at hQ
      refine B_Model_isCrossing_40 ?_
      simp only [wp_cons, wp_nil, List.getElem?_cons_zero, List.getElem?_cons_succ, List.set_cons_zero, List.set_cons_succ, s_imul, p2_s, I_mul, s_ifCond_ge, p1_s, true_and, and_true, Nat.le_refl, true_implies, forall_const, not_false_eq_true, false_implies, not_true_eq_false, reduceCtorEq, tl_s, tl_n, rf_s, List.cons_append, List.nil_append, true_or, or_true]
      refine b_le (by omega) (by omega) (fun cc => ?_) (fun cc => absurd cc (by omega))
      refine B_Model_isCrossing_48 ?_
      simp only [wp_cons, wp_nil, List.getElem?_cons_zero, List.getElem?_cons_succ, List.set_cons_zero, List.set_cons_succ, s_iconst, true_and, and_true, Nat.le_refl, true_implies, forall_const, not_false_eq_true, false_implies, not_true_eq_false, reduceCtorEq, tl_s, tl_n, rf_s, List.cons_append, List.nil_append, true_or, or_true]
      refine B_Model_isCrossing_49 ?_
      simp only [wp_cons, wp_nil, List.getElem?_cons_zero, List.getElem?_cons_succ, List.set_cons_zero, List.set_cons_succ, s_ireturn, p1_s, rI_i, rI_z, rI_c, z_01, z_11, rt_Model_isCrossing, true_and, and_true, Nat.le_refl, true_implies, forall_const, not_false_eq_true, false_implies, not_true_eq_false, reduceCtorEq, tl_s, tl_n, rf_s, List.cons_append, List.nil_append, true_or, or_true]
      exact hQ
  · have c1' : ¬ sgI (crs a b c) * sgI (crs a b e) < 0 := fun q => c1 (k1.mp q)
    rw [show bi (pcr a b c e) = 0 by simp [bi, pcr, c1]] at hQ
    refine B_Model_isCrossing_18 ?_
    simp only [wp_cons, wp_nil, List.getElem?_cons_zero, List.getElem?_cons_succ, List.set_cons_zero, List.set_cons_succ, s_imul, p2_s, I_mul, s_ifCond_ge, p1_s, true_and, and_true, Nat.le_refl, true_implies, forall_const, not_false_eq_true, false_implies, not_true_eq_false, reduceCtorEq, tl_s, tl_n, rf_s, List.cons_append, List.nil_append, true_or, or_true]
    refine b_le (by omega) (by omega) (fun cc => ?_) (fun cc => absurd cc (by omega))
    refine B_Model_isCrossing_48 ?_
    simp only [wp_cons, wp_nil, List.getElem?_cons_zero, List.getElem?_cons_succ, List.set_cons_zero, List.set_cons_succ, s_iconst, true_and, and_true, Nat.le_refl, true_implies, forall_const, not_false_eq_true, false_implies, not_true_eq_false, reduceCtorEq, tl_s, tl_n, rf_s, List.cons_append, List.nil_append, true_or, or_true]
    refine B_Model_isCrossing_49 ?_
    simp only [wp_cons, wp_nil, List.getElem?_cons_zero, List.getElem?_cons_succ, List.set_cons_zero, List.set_cons_succ, s_ireturn, p1_s, rI_i, rI_z, rI_c, z_01, z_11, rt_Model_isCrossing, true_and, and_true, Nat.le_refl, true_implies, forall_const, not_false_eq_true, false_implies, not_true_eq_false, reduceCtorEq, tl_s, tl_n, rf_s, List.cons_append, List.nil_append, true_or, or_true]
    exact hQ
theorem wfL.p {Ss : List Stk} (w : wfL Ss) {s k : Nat} (hs : s < Ss.length) (hk : k < (sg Ss s).1.length) : pt (pg (sg Ss s).1 k) := (w.2 s hs).2.2 k hk
theorem wfL.r {Ss : List Stk} (w : wfL Ss) {s k : Nat} (hs : s < Ss.length) : pt (pr (sg Ss s).1 k) := pr_pt (w.2 s hs).2.2 (by have := (w.2 s hs).1; omega)
theorem Mdl_leng_c {d M s : Nat} (d3 : 3 ≤ d) {st : Sta} {r : Nat → Int} {A : Nat → Nat → Int} {h : g_H} {Q : g_Po} (hm : mdl h M r A) (hr : stR (A 1) st) (w : wfL st.1) (hs : s < st.1.length) (hQ : Q (some (.int (I (lenS (sg st.1 s))))) h) : Call Model_lengthOf d 0 0 [.ref M, .int (I (s : Int))] h Q := by
  have d1 : 1 ≤ d := by omega
  obtain ⟨w1, w2, w3⟩ := w.2 s hs
  have hpc := pcs_le (S := sg st.1 s)
  have loop : ∀ (m i : Nat) (v : Int), i + m = pcs (sg st.1 s) → v = sm (fun i => rt (100 * sqd (pg (sg st.1 s).1 i) (pr (sg st.1 s).1 (i + 1)))) i → G Model_lengthOf d 0 0 0 0 4 [some (.ref M), some (.int (I (s : Int))), some (.int (I v)), some (.int (I (i : Int)))] [] h Q := by
    intro m
    induction m with
    | zero =>
      intro i v hi hv
      refine B_Model_lengthOf_4 ?_
      simp only [wp_cons, wp_nil, List.getElem?_cons_zero, List.getElem?_cons_succ, List.set_cons_zero, List.set_cons_succ, s_iload_n3, ldI_s, s_aload_n0, ldA_r, ldA_n, s_iload_n1, s_invokevirtual, rc_s, ob_s, List.drop_succ_cons, List.drop_zero, List.take_succ_cons, List.take_zero, List.reverse_cons, List.reverse_nil, List.nil_append, List.cons_append, List.length_cons, List.length_nil, d1, Int.reduceToNat, Nat.reduceAdd, Nat.reduceLeDiff, true_and, and_true, Nat.le_refl, true_implies, forall_const, not_false_eq_true, false_implies, not_true_eq_false, reduceCtorEq, tl_s, tl_n, rf_s, true_or, or_true, hm.c]
      refine Mdl_pcs_c (by omega) hm hr w hs ?_
      refine B_Model_lengthOf_10 ?_
      simp only [wp_cons, wp_nil, List.getElem?_cons_zero, List.getElem?_cons_succ, List.set_cons_zero, List.set_cons_succ, s_if_icmp_ge, p2_s, true_and, and_true, Nat.le_refl, true_implies, forall_const, not_false_eq_true, false_implies, not_true_eq_false, reduceCtorEq, tl_s, tl_n, rf_s, List.cons_append, List.nil_append, true_or, or_true, hm.c]
      refine b_le (by omega) (by omega) (fun cc => ?_) (fun cc => absurd cc (by omega))
      refine B_Model_lengthOf_45 ?_
      simp only [wp_cons, wp_nil, List.getElem?_cons_zero, List.getElem?_cons_succ, List.set_cons_zero, List.set_cons_succ, s_iload_n2, ldI_s, s_ireturn, p1_s, rI_i, rI_z, rI_c, z_01, z_11, rt_Model_lengthOf, true_and, and_true, Nat.le_refl, true_implies, forall_const, not_false_eq_true, false_implies, not_true_eq_false, reduceCtorEq, tl_s, tl_n, rf_s, List.cons_append, List.nil_append, true_or, or_true, hm.c]
      rw [hv, show i = pcs (sg st.1 s) by omega]
      exact hQ
    | succ m ih =>
      intro i v hi hv
      have b1 := w.p hs (k := i) (by omega)
      have b2 := w.r hs (k := i + 1)
      have b3 := sqd_bd b1 b2
      refine B_Model_lengthOf_4 ?_
      simp only [wp_cons, wp_nil, List.getElem?_cons_zero, List.getElem?_cons_succ, List.set_cons_zero, List.set_cons_succ, s_iload_n3, ldI_s, s_aload_n0, ldA_r, ldA_n, s_iload_n1, s_invokevirtual, rc_s, ob_s, List.drop_succ_cons, List.drop_zero, List.take_succ_cons, List.take_zero, List.reverse_cons, List.reverse_nil, List.nil_append, List.cons_append, List.length_cons, List.length_nil, d1, Int.reduceToNat, Nat.reduceAdd, Nat.reduceLeDiff, true_and, and_true, Nat.le_refl, true_implies, forall_const, not_false_eq_true, false_implies, not_true_eq_false, reduceCtorEq, tl_s, tl_n, rf_s, true_or, or_true, hm.c]
      refine Mdl_pcs_c (by omega) hm hr w hs ?_
      refine B_Model_lengthOf_10 ?_
      simp only [wp_cons, wp_nil, List.getElem?_cons_zero, List.getElem?_cons_succ, List.set_cons_zero, List.set_cons_succ, s_if_icmp_ge, p2_s, true_and, and_true, Nat.le_refl, true_implies, forall_const, not_false_eq_true, false_implies, not_true_eq_false, reduceCtorEq, tl_s, tl_n, rf_s, List.cons_append, List.nil_append, true_or, or_true, hm.c]
      refine b_le (by omega) (by omega) (fun cc => absurd cc (by omega)) (fun cc => ?_)
      refine B_Model_lengthOf_13 ?_
      simp only [wp_cons, wp_nil, List.getElem?_cons_zero, List.getElem?_cons_succ, List.set_cons_zero, List.set_cons_succ, s_iload_n2, ldI_s, s_bipush, s_aload_n0, ldA_r, ldA_n, s_iload_n1, s_iload_n3, s_invokevirtual, rc_s, ob_s, List.drop_succ_cons, List.drop_zero, List.take_succ_cons, List.take_zero, List.reverse_cons, List.reverse_nil, List.nil_append, List.cons_append, List.length_cons, List.length_nil, d1, Int.reduceToNat, Nat.reduceAdd, Nat.reduceLeDiff, true_and, and_true, Nat.le_refl, true_implies, forall_const, not_false_eq_true, false_implies, not_true_eq_false, reduceCtorEq, tl_s, tl_n, rf_s, true_or, or_true, hm.c]
      refine Mdl_pAt_c (by omega) hm hr w hs (by omega) ?_
      refine B_Model_lengthOf_22 ?_
      simp only [wp_cons, wp_nil, List.getElem?_cons_zero, List.getElem?_cons_succ, List.set_cons_zero, List.set_cons_succ, s_aload_n0, ldA_r, ldA_n, s_iload_n1, ldI_s, s_iload_n3, s_iconst, s_iadd, p2_s, I_add, s_invokevirtual, rc_s, ob_s, List.drop_succ_cons, List.drop_zero, List.take_succ_cons, List.take_zero, List.reverse_cons, List.reverse_nil, List.nil_append, List.cons_append, List.length_cons, List.length_nil, d1, Int.reduceToNat, Nat.reduceAdd, Nat.reduceLeDiff, true_and, and_true, Nat.le_refl, true_implies, forall_const, not_false_eq_true, false_implies, not_true_eq_false, reduceCtorEq, tl_s, tl_n, rf_s, true_or, or_true, hm.c]
      refine Mdl_pAr_c (by omega) (k := i + 1) hm hr w hs (by omega) ?_
      refine B_Model_lengthOf_30 ?_
      simp only [wp_cons, wp_nil, List.getElem?_cons_zero, List.getElem?_cons_succ, List.set_cons_zero, List.set_cons_succ, s_invokestatic, rc_s, ob_s, List.drop_succ_cons, List.drop_zero, List.take_succ_cons, List.take_zero, List.reverse_cons, List.reverse_nil, List.nil_append, List.cons_append, List.length_cons, List.length_nil, Nat.reduceEqDiff, reduceIte, p1_s, p2_s, l1_s, d1, Int.reduceToNat, Nat.reduceAdd, Nat.reduceLeDiff, true_and, and_true, Nat.le_refl, true_implies, forall_const, not_false_eq_true, false_implies, not_true_eq_false, reduceCtorEq, tl_s, tl_n, rf_s, true_or, or_true, hm.c]
      refine Mdl_sqd_c (by omega) b1 b2 ?_
      refine B_Model_lengthOf_33 ?_
      simp only [wp_cons, wp_nil, List.getElem?_cons_zero, List.getElem?_cons_succ, List.set_cons_zero, List.set_cons_succ, s_imul, p2_s, I_mul, s_invokestatic, rc_s, ob_s, List.drop_succ_cons, List.drop_zero, List.take_succ_cons, List.take_zero, List.reverse_cons, List.reverse_nil, List.nil_append, List.cons_append, List.length_cons, List.length_nil, Nat.reduceEqDiff, reduceIte, p1_s, l1_s, d1, Int.reduceToNat, Nat.reduceAdd, Nat.reduceLeDiff, true_and, and_true, Nat.le_refl, true_implies, forall_const, not_false_eq_true, false_implies, not_true_eq_false, reduceCtorEq, tl_s, tl_n, rf_s, true_or, or_true, hm.c]
      refine Mdl_root_c (by omega) ?_
      refine B_Model_lengthOf_37 ?_
      simp only [wp_cons, wp_nil, List.getElem?_cons_zero, List.getElem?_cons_succ, List.set_cons_zero, List.set_cons_succ, s_iadd, p2_s, I_add, s_istore_n2, p1_s, s1_0, s1_s, kx_i, kx_r, kx_n, kx_l, kx_0, s_iinc, ldI_s, s_goto, true_and, and_true, Nat.le_refl, true_implies, forall_const, not_false_eq_true, false_implies, not_true_eq_false, reduceCtorEq, tl_s, tl_n, rf_s, List.cons_append, List.nil_append, true_or, or_true, hm.c]
      exact ih (i + 1) _ (by omega) (by rw [hv]; rfl)
  refine Call.intro (by rfl) (Nat.le_of_ble_eq_true rfl) ?_
  refine G.eqL (L := [some (.ref _), some (.int _), none, none]) rfl ?_
  refine B_Model_lengthOf_0 ?_
  simp only [wp_cons, wp_nil, List.getElem?_cons_zero, List.getElem?_cons_succ, List.set_cons_zero, List.set_cons_succ, s_iconst, s_istore_n2, p1_s, s1_0, s1_s, kx_i, kx_r, kx_n, kx_l, kx_0, s_istore_n3, true_and, and_true, Nat.le_refl, true_implies, forall_const, not_false_eq_true, false_implies, not_true_eq_false, reduceCtorEq, tl_s, tl_n, rf_s, List.cons_append, List.nil_append, true_or, or_true]
  exact loop (pcs (sg st.1 s)) 0 0 (by omega) rfl
theorem Mdl_area_c {d M s : Nat} (d3 : 3 ≤ d) {st : Sta} {r : Nat → Int} {A : Nat → Nat → Int} {h : g_H} {Q : g_Po} (hm : mdl h M r A) (hr : stR (A 1) st) (w : wfL st.1) (hs : s < st.1.length) (hQ : Q (some (.int (I (areaS (sg st.1 s))))) h) : Call Model_areaOf d 0 0 [.ref M, .int (I (s : Int))] h Q := by
  have d1 : 1 ≤ d := by omega
  obtain ⟨w1, w2, w3⟩ := w.2 s hs
  have hpc := pcs_le (S := sg st.1 s)
  have loop : (sg st.1 s).2 = true → ∀ (m i : Nat) (v : Int) (x4 x5 : Option Value), i + m = (sg st.1 s).1.length → v = sm (fun i => pg (sg st.1 s).1 i / 1000 * (pr (sg st.1 s).1 (i + 1) % 1000) - pr (sg st.1 s).1 (i + 1) / 1000 * (pg (sg st.1 s).1 i % 1000)) i → G Model_areaOf d 0 0 0 0 4 [some (.ref M), some (.int (I (s : Int))), some (.int (I v)), some (.int (I (i : Int))), x4, x5] [] h Q := by
    intro hz m
    have hpe : pcs (sg st.1 s) = (sg st.1 s).1.length := by unfold pcs; rw [if_pos hz]
    unfold areaS at hQ
    rw [if_pos hz] at hQ
    induction m with
    | zero =>
      intro i v x4 x5 hi hv
      refine B_Model_areaOf_4 ?_
      simp only [wp_cons, wp_nil, List.getElem?_cons_zero, List.getElem?_cons_succ, List.set_cons_zero, List.set_cons_succ, s_iload_n3, ldI_s, s_aload_n0, ldA_r, ldA_n, s_iload_n1, s_invokevirtual, rc_s, ob_s, List.drop_succ_cons, List.drop_zero, List.take_succ_cons, List.take_zero, List.reverse_cons, List.reverse_nil, List.nil_append, List.cons_append, List.length_cons, List.length_nil, d1, Int.reduceToNat, Nat.reduceAdd, Nat.reduceLeDiff, true_and, and_true, Nat.le_refl, true_implies, forall_const, not_false_eq_true, false_implies, not_true_eq_false, reduceCtorEq, tl_s, tl_n, rf_s, true_or, or_true, hm.c]
      refine Mdl_pcs_c (by omega) hm hr w hs ?_
      refine B_Model_areaOf_10 ?_
      simp only [wp_cons, wp_nil, List.getElem?_cons_zero, List.getElem?_cons_succ, List.set_cons_zero, List.set_cons_succ, s_if_icmp_ge, p2_s, true_and, and_true, Nat.le_refl, true_implies, forall_const, not_false_eq_true, false_implies, not_true_eq_false, reduceCtorEq, tl_s, tl_n, rf_s, List.cons_append, List.nil_append, true_or, or_true, hm.c]
      refine b_le (by omega) (by omega) (fun cc => ?_) (fun cc => absurd cc (by omega))
      refine B_Model_areaOf_71 ?_
      simp only [wp_cons, wp_nil, List.getElem?_cons_zero, List.getElem?_cons_succ, List.set_cons_zero, List.set_cons_succ, s_iload_n2, ldI_s, s_ireturn, p1_s, rI_i, rI_z, rI_c, z_01, z_11, rt_Model_areaOf, true_and, and_true, Nat.le_refl, true_implies, forall_const, not_false_eq_true, false_implies, not_true_eq_false, reduceCtorEq, tl_s, tl_n, rf_s, List.cons_append, List.nil_append, true_or, or_true, hm.c]
      rw [hv, show i = (sg st.1 s).1.length by omega]
      exact hQ
    | succ m ih =>
      intro i v x4 x5 hi hv
      have b1 := w.p hs (k := i) (by omega)
      have b2 := w.r hs (k := i + 1)
      have hz1 : sz (sg st.1 s).2 = 1 := by rw [hz]; rfl
      refine B_Model_areaOf_4 ?_
      simp only [wp_cons, wp_nil, List.getElem?_cons_zero, List.getElem?_cons_succ, List.set_cons_zero, List.set_cons_succ, s_iload_n3, ldI_s, s_aload_n0, ldA_r, ldA_n, s_iload_n1, s_invokevirtual, rc_s, ob_s, List.drop_succ_cons, List.drop_zero, List.take_succ_cons, List.take_zero, List.reverse_cons, List.reverse_nil, List.nil_append, List.cons_append, List.length_cons, List.length_nil, d1, Int.reduceToNat, Nat.reduceAdd, Nat.reduceLeDiff, true_and, and_true, Nat.le_refl, true_implies, forall_const, not_false_eq_true, false_implies, not_true_eq_false, reduceCtorEq, tl_s, tl_n, rf_s, true_or, or_true, hm.c]
      refine Mdl_pcs_c (by omega) hm hr w hs ?_
      refine B_Model_areaOf_10 ?_
      simp only [wp_cons, wp_nil, List.getElem?_cons_zero, List.getElem?_cons_succ, List.set_cons_zero, List.set_cons_succ, s_if_icmp_ge, p2_s, true_and, and_true, Nat.le_refl, true_implies, forall_const, not_false_eq_true, false_implies, not_true_eq_false, reduceCtorEq, tl_s, tl_n, rf_s, List.cons_append, List.nil_append, true_or, or_true, hm.c]
      refine b_le (by omega) (by omega) (fun cc => absurd cc (by omega)) (fun cc => ?_)
      refine B_Model_areaOf_13 ?_
      simp only [wp_cons, wp_nil, List.getElem?_cons_zero, List.getElem?_cons_succ, List.set_cons_zero, List.set_cons_succ, s_aload_n0, ldA_r, ldA_n, s_iload_n1, ldI_s, s_invokevirtual, rc_s, ob_s, List.drop_succ_cons, List.drop_zero, List.take_succ_cons, List.take_zero, List.reverse_cons, List.reverse_nil, List.nil_append, List.cons_append, List.length_cons, List.length_nil, d1, Int.reduceToNat, Nat.reduceAdd, Nat.reduceLeDiff, true_and, and_true, Nat.le_refl, true_implies, forall_const, not_false_eq_true, false_implies, not_true_eq_false, reduceCtorEq, tl_s, tl_n, rf_s, true_or, or_true, hm.c]
      refine Mdl_clo_c (by omega) hm hr w hs ?_
      refine B_Model_areaOf_18 ?_
      simp only [wp_cons, wp_nil, List.getElem?_cons_zero, List.getElem?_cons_succ, List.set_cons_zero, List.set_cons_succ, s_ifCond_eq, p1_s, true_and, and_true, Nat.le_refl, true_implies, forall_const, not_false_eq_true, false_implies, not_true_eq_false, reduceCtorEq, tl_s, tl_n, rf_s, List.cons_append, List.nil_append, true_or, or_true, hm.c]
      refine b_eq (by omega) (by omega) (fun cc => absurd cc (by omega)) (fun cc => ?_)
      refine B_Model_areaOf_21 ?_
      simp only [wp_cons, wp_nil, List.getElem?_cons_zero, List.getElem?_cons_succ, List.set_cons_zero, List.set_cons_succ, s_aload_n0, ldA_r, ldA_n, s_iload_n1, ldI_s, s_iload_n3, s_invokevirtual, rc_s, ob_s, List.drop_succ_cons, List.drop_zero, List.take_succ_cons, List.take_zero, List.reverse_cons, List.reverse_nil, List.nil_append, List.cons_append, List.length_cons, List.length_nil, d1, Int.reduceToNat, Nat.reduceAdd, Nat.reduceLeDiff, true_and, and_true, Nat.le_refl, true_implies, forall_const, not_false_eq_true, false_implies, not_true_eq_false, reduceCtorEq, tl_s, tl_n, rf_s, true_or, or_true, hm.c]
      refine Mdl_pAt_c (by omega) hm hr w hs (by omega) ?_
      refine B_Model_areaOf_27 ?_
      simp only [wp_cons, wp_nil, List.getElem?_cons_zero, List.getElem?_cons_succ, List.set_cons_zero, List.set_cons_succ, s_istore, p1_s, s1_0, s1_s, kx_i, kx_r, kx_n, kx_l, kx_0, s_aload_n0, ldA_r, ldA_n, s_iload_n1, ldI_s, s_iload_n3, s_iconst, s_iadd, p2_s, I_add, s_invokevirtual, rc_s, ob_s, List.drop_succ_cons, List.drop_zero, List.take_succ_cons, List.take_zero, List.reverse_cons, List.reverse_nil, List.nil_append, List.cons_append, List.length_cons, List.length_nil, d1, Int.reduceToNat, Nat.reduceAdd, Nat.reduceLeDiff, true_and, and_true, Nat.le_refl, true_implies, forall_const, not_false_eq_true, false_implies, not_true_eq_false, reduceCtorEq, tl_s, tl_n, rf_s, true_or, or_true, hm.c]
      refine Mdl_pAr_c (by omega) (k := i + 1) hm hr w hs (by omega) ?_
      refine B_Model_areaOf_37 ?_
      simp only [wp_cons, wp_nil, List.getElem?_cons_zero, List.getElem?_cons_succ, List.set_cons_zero, List.set_cons_succ, s_istore, p1_s, s1_0, s1_s, kx_i, kx_r, kx_n, kx_l, kx_0, s_iload_n2, ldI_s, s_iload, s_invokestatic, rc_s, ob_s, List.drop_succ_cons, List.drop_zero, List.take_succ_cons, List.take_zero, List.reverse_cons, List.reverse_nil, List.nil_append, List.cons_append, List.length_cons, List.length_nil, Nat.reduceEqDiff, reduceIte, p2_s, l1_s, d1, Int.reduceToNat, Nat.reduceAdd, Nat.reduceLeDiff, true_and, and_true, Nat.le_refl, true_implies, forall_const, not_false_eq_true, false_implies, not_true_eq_false, reduceCtorEq, tl_s, tl_n, rf_s, true_or, or_true, hm.c]
      refine Mdl_x_c b1 ?_
      refine B_Model_areaOf_45 ?_
      simp only [wp_cons, wp_nil, List.getElem?_cons_zero, List.getElem?_cons_succ, List.set_cons_zero, List.set_cons_succ, s_iload, ldI_s, s_invokestatic, rc_s, ob_s, List.drop_succ_cons, List.drop_zero, List.take_succ_cons, List.take_zero, List.reverse_cons, List.reverse_nil, List.nil_append, List.cons_append, List.length_cons, List.length_nil, Nat.reduceEqDiff, reduceIte, p1_s, p2_s, l1_s, d1, Int.reduceToNat, Nat.reduceAdd, Nat.reduceLeDiff, true_and, and_true, Nat.le_refl, true_implies, forall_const, not_false_eq_true, false_implies, not_true_eq_false, reduceCtorEq, tl_s, tl_n, rf_s, true_or, or_true, hm.c]
      refine Mdl_y_c b2 ?_
      refine B_Model_areaOf_50 ?_
      simp only [wp_cons, wp_nil, List.getElem?_cons_zero, List.getElem?_cons_succ, List.set_cons_zero, List.set_cons_succ, s_imul, p2_s, I_mul, s_iload, ldI_s, s_invokestatic, rc_s, ob_s, List.drop_succ_cons, List.drop_zero, List.take_succ_cons, List.take_zero, List.reverse_cons, List.reverse_nil, List.nil_append, List.cons_append, List.length_cons, List.length_nil, Nat.reduceEqDiff, reduceIte, p1_s, l1_s, d1, Int.reduceToNat, Nat.reduceAdd, Nat.reduceLeDiff, true_and, and_true, Nat.le_refl, true_implies, forall_const, not_false_eq_true, false_implies, not_true_eq_false, reduceCtorEq, tl_s, tl_n, rf_s, true_or, or_true, hm.c]
      refine Mdl_x_c b2 ?_
      refine B_Model_areaOf_56 ?_
      simp only [wp_cons, wp_nil, List.getElem?_cons_zero, List.getElem?_cons_succ, List.set_cons_zero, List.set_cons_succ, s_iload, ldI_s, s_invokestatic, rc_s, ob_s, List.drop_succ_cons, List.drop_zero, List.take_succ_cons, List.take_zero, List.reverse_cons, List.reverse_nil, List.nil_append, List.cons_append, List.length_cons, List.length_nil, Nat.reduceEqDiff, reduceIte, p1_s, p2_s, l1_s, d1, Int.reduceToNat, Nat.reduceAdd, Nat.reduceLeDiff, true_and, and_true, Nat.le_refl, true_implies, forall_const, not_false_eq_true, false_implies, not_true_eq_false, reduceCtorEq, tl_s, tl_n, rf_s, true_or, or_true, hm.c]
      refine Mdl_y_c b1 ?_
      refine B_Model_areaOf_61 ?_
      simp only [wp_cons, wp_nil, List.getElem?_cons_zero, List.getElem?_cons_succ, List.set_cons_zero, List.set_cons_succ, s_imul, p2_s, I_mul, s_isub, I_sub, s_iadd, I_add, s_istore_n2, p1_s, s1_0, s1_s, kx_i, kx_r, kx_n, kx_l, kx_0, s_iinc, ldI_s, s_goto, true_and, and_true, Nat.le_refl, true_implies, forall_const, not_false_eq_true, false_implies, not_true_eq_false, reduceCtorEq, tl_s, tl_n, rf_s, List.cons_append, List.nil_append, true_or, or_true, hm.c]
      exact ih (i + 1) _ _ _ (by omega) (by rw [hv]; rfl)
  refine Call.intro (by rfl) (Nat.le_of_ble_eq_true rfl) ?_
  refine G.eqL (L := [some (.ref _), some (.int _), none, none, none, none]) rfl ?_
  refine B_Model_areaOf_0 ?_
  simp only [wp_cons, wp_nil, List.getElem?_cons_zero, List.getElem?_cons_succ, List.set_cons_zero, List.set_cons_succ, s_iconst, s_istore_n2, p1_s, s1_0, s1_s, kx_i, kx_r, kx_n, kx_l, kx_0, s_istore_n3, true_and, and_true, Nat.le_refl, true_implies, forall_const, not_false_eq_true, false_implies, not_true_eq_false, reduceCtorEq, tl_s, tl_n, rf_s, List.cons_append, List.nil_append, true_or, or_true]
  cases hz : (sg st.1 s).2 with
  | true => exact loop hz (sg st.1 s).1.length 0 0 _ _ (by omega) rfl
  | false =>
    have hz1 : sz (sg st.1 s).2 = 0 := by rw [hz]; rfl
    unfold areaS at hQ
    rw [if_neg (by rw [hz]; decide)] at hQ
    refine B_Model_areaOf_4 ?_
    simp only [wp_cons, wp_nil, List.getElem?_cons_zero, List.getElem?_cons_succ, List.set_cons_zero, List.set_cons_succ, s_iload_n3, ldI_s, s_aload_n0, ldA_r, ldA_n, s_iload_n1, s_invokevirtual, rc_s, ob_s, List.drop_succ_cons, List.drop_zero, List.take_succ_cons, List.take_zero, List.reverse_cons, List.reverse_nil, List.nil_append, List.cons_append, List.length_cons, List.length_nil, d1, Int.reduceToNat, Nat.reduceAdd, Nat.reduceLeDiff, true_and, and_true, Nat.le_refl, true_implies, forall_const, not_false_eq_true, false_implies, not_true_eq_false, reduceCtorEq, tl_s, tl_n, rf_s, true_or, or_true, hm.c]
    refine Mdl_pcs_c (by omega) hm hr w hs ?_
    by_cases c : 0 < pcs (sg st.1 s)
    · refine B_Model_areaOf_10 ?_
      simp only [wp_cons, wp_nil, List.getElem?_cons_zero, List.getElem?_cons_succ, List.set_cons_zero, List.set_cons_succ, s_if_icmp_ge, p2_s, true_and, and_true, Nat.le_refl, true_implies, forall_const, not_false_eq_true, false_implies, not_true_eq_false, reduceCtorEq, tl_s, tl_n, rf_s, List.cons_append, List.nil_append, true_or, or_true, hm.c]
      refine b_le (by omega) (by omega) (fun cc => absurd cc (by omega)) (fun cc => ?_)
      refine B_Model_areaOf_13 ?_
      simp only [wp_cons, wp_nil, List.getElem?_cons_zero, List.getElem?_cons_succ, List.set_cons_zero, List.set_cons_succ, s_aload_n0, ldA_r, ldA_n, s_iload_n1, ldI_s, s_invokevirtual, rc_s, ob_s, List.drop_succ_cons, List.drop_zero, List.take_succ_cons, List.take_zero, List.reverse_cons, List.reverse_nil, List.nil_append, List.cons_append, List.length_cons, List.length_nil, d1, Int.reduceToNat, Nat.reduceAdd, Nat.reduceLeDiff, true_and, and_true, Nat.le_refl, true_implies, forall_const, not_false_eq_true, false_implies, not_true_eq_false, reduceCtorEq, tl_s, tl_n, rf_s, true_or, or_true, hm.c]
      refine Mdl_clo_c (by omega) hm hr w hs ?_
      refine B_Model_areaOf_18 ?_
      simp only [wp_cons, wp_nil, List.getElem?_cons_zero, List.getElem?_cons_succ, List.set_cons_zero, List.set_cons_succ, s_ifCond_eq, p1_s, true_and, and_true, Nat.le_refl, true_implies, forall_const, not_false_eq_true, false_implies, not_true_eq_false, reduceCtorEq, tl_s, tl_n, rf_s, List.cons_append, List.nil_append, true_or, or_true, hm.c]
      refine b_eq (by omega) (by omega) (fun cc => ?_) (fun cc => absurd cc (by omega))
      refine B_Model_areaOf_71 ?_
      simp only [wp_cons, wp_nil, List.getElem?_cons_zero, List.getElem?_cons_succ, List.set_cons_zero, List.set_cons_succ, s_iload_n2, ldI_s, s_ireturn, p1_s, rI_i, rI_z, rI_c, z_01, z_11, rt_Model_areaOf, true_and, and_true, Nat.le_refl, true_implies, forall_const, not_false_eq_true, false_implies, not_true_eq_false, reduceCtorEq, tl_s, tl_n, rf_s, List.cons_append, List.nil_append, true_or, or_true, hm.c]
      exact hQ
    · refine B_Model_areaOf_10 ?_
      simp only [wp_cons, wp_nil, List.getElem?_cons_zero, List.getElem?_cons_succ, List.set_cons_zero, List.set_cons_succ, s_if_icmp_ge, p2_s, true_and, and_true, Nat.le_refl, true_implies, forall_const, not_false_eq_true, false_implies, not_true_eq_false, reduceCtorEq, tl_s, tl_n, rf_s, List.cons_append, List.nil_append, true_or, or_true, hm.c]
      refine b_le (by omega) (by omega) (fun cc => ?_) (fun cc => absurd cc (by omega))
      refine B_Model_areaOf_71 ?_
      simp only [wp_cons, wp_nil, List.getElem?_cons_zero, List.getElem?_cons_succ, List.set_cons_zero, List.set_cons_succ, s_iload_n2, ldI_s, s_ireturn, p1_s, rI_i, rI_z, rI_c, z_01, z_11, rt_Model_areaOf, true_and, and_true, Nat.le_refl, true_implies, forall_const, not_false_eq_true, false_implies, not_true_eq_false, reduceCtorEq, tl_s, tl_n, rf_s, List.cons_append, List.nil_append, true_or, or_true, hm.c]
      exact hQ
theorem Mdl_are_c {d M s t i j : Nat} (d3 : 3 ≤ d) {st : Sta} {r : Nat → Int} {A : Nat → Nat → Int} {h : g_H} {Q : g_Po} (hm : mdl h M r A) (hr : stR (A 1) st) (w : wfL st.1) (hs : s < st.1.length) (ht : t < st.1.length) (hi : i < pcs (sg st.1 s)) (hj : j < pcs (sg st.1 t)) (hQ : Q (some (.int (I (bi (pcr (pg (sg st.1 s).1 i) (pr (sg st.1 s).1 (i + 1)) (pg (sg st.1 t).1 j) (pr (sg st.1 t).1 (j + 1))))))) h) : Call Model_areCrossing d 0 0 [.ref M, .int (I (s : Int)), .int (I (i : Int)), .int (I (t : Int)), .int (I (j : Int))] h Q := by
  have d1 : 1 ≤ d := by omega
  have hpc := pcs_le (S := sg st.1 s)
  have hpt := pcs_le (S := sg st.1 t)
  have hb := bi_bd (pcr (pg (sg st.1 s).1 i) (pr (sg st.1 s).1 (i + 1)) (pg (sg st.1 t).1 j) (pr (sg st.1 t).1 (j + 1)))
  refine Call.intro (by rfl) (Nat.le_of_ble_eq_true rfl) ?_
  refine G.eqL (L := [some (.ref _), some (.int _), some (.int _), some (.int _), some (.int _)]) rfl ?_
  refine B_Model_areCrossing_0 ?_
  simp only [wp_cons, wp_nil, List.getElem?_cons_zero, List.getElem?_cons_succ, List.set_cons_zero, List.set_cons_succ, s_aload_n0, ldA_r, ldA_n, s_iload_n1, ldI_s, s_iload_n2, s_invokevirtual, rc_s, ob_s, List.drop_succ_cons, List.drop_zero, List.take_succ_cons, List.take_zero, List.reverse_cons, List.reverse_nil, List.nil_append, List.cons_append, List.length_cons, List.length_nil, d1, Int.reduceToNat, Nat.reduceAdd, Nat.reduceLeDiff, true_and, and_true, Nat.le_refl, true_implies, forall_const, not_false_eq_true, false_implies, not_true_eq_false, reduceCtorEq, tl_s, tl_n, rf_s, true_or, or_true, hm.c]
  refine Mdl_pAt_c (by omega) hm hr w hs (by omega) ?_
  refine B_Model_areCrossing_6 ?_
  simp only [wp_cons, wp_nil, List.getElem?_cons_zero, List.getElem?_cons_succ, List.set_cons_zero, List.set_cons_succ, s_aload_n0, ldA_r, ldA_n, s_iload_n1, ldI_s, s_iload_n2, s_iconst, s_iadd, p2_s, I_add, s_invokevirtual, rc_s, ob_s, List.drop_succ_cons, List.drop_zero, List.take_succ_cons, List.take_zero, List.reverse_cons, List.reverse_nil, List.nil_append, List.cons_append, List.length_cons, List.length_nil, d1, Int.reduceToNat, Nat.reduceAdd, Nat.reduceLeDiff, true_and, and_true, Nat.le_refl, true_implies, forall_const, not_false_eq_true, false_implies, not_true_eq_false, reduceCtorEq, tl_s, tl_n, rf_s, true_or, or_true, hm.c]
  refine Mdl_pAr_c (by omega) (k := i + 1) hm hr w hs (by omega) ?_
  refine B_Model_areCrossing_14 ?_
  simp only [wp_cons, wp_nil, List.getElem?_cons_zero, List.getElem?_cons_succ, List.set_cons_zero, List.set_cons_succ, s_aload_n0, ldA_r, ldA_n, s_iload_n3, ldI_s, s_iload, s_invokevirtual, rc_s, ob_s, List.drop_succ_cons, List.drop_zero, List.take_succ_cons, List.take_zero, List.reverse_cons, List.reverse_nil, List.nil_append, List.cons_append, List.length_cons, List.length_nil, d1, Int.reduceToNat, Nat.reduceAdd, Nat.reduceLeDiff, true_and, and_true, Nat.le_refl, true_implies, forall_const, not_false_eq_true, false_implies, not_true_eq_false, reduceCtorEq, tl_s, tl_n, rf_s, true_or, or_true, hm.c]
  refine Mdl_pAt_c (by omega) hm hr w ht (by omega) ?_
  refine B_Model_areCrossing_21 ?_
  simp only [wp_cons, wp_nil, List.getElem?_cons_zero, List.getElem?_cons_succ, List.set_cons_zero, List.set_cons_succ, s_aload_n0, ldA_r, ldA_n, s_iload_n3, ldI_s, s_iload, s_iconst, s_iadd, p2_s, I_add, s_invokevirtual, rc_s, ob_s, List.drop_succ_cons, List.drop_zero, List.take_succ_cons, List.take_zero, List.reverse_cons, List.reverse_nil, List.nil_append, List.cons_append, List.length_cons, List.length_nil, d1, Int.reduceToNat, Nat.reduceAdd, Nat.reduceLeDiff, true_and, and_true, Nat.le_refl, true_implies, forall_const, not_false_eq_true, false_implies, not_true_eq_false, reduceCtorEq, tl_s, tl_n, rf_s, true_or, or_true, hm.c]
  refine Mdl_pAr_c (by omega) (k := j + 1) hm hr w ht (by omega) ?_
  refine B_Model_areCrossing_30 ?_
  simp only [wp_cons, wp_nil, List.getElem?_cons_zero, List.getElem?_cons_succ, List.set_cons_zero, List.set_cons_succ, s_invokestatic, rc_s, ob_s, List.drop_succ_cons, List.drop_zero, List.take_succ_cons, List.take_zero, List.reverse_cons, List.reverse_nil, List.nil_append, List.cons_append, List.length_cons, List.length_nil, Nat.reduceEqDiff, reduceIte, p1_s, p2_s, l1_s, d1, Int.reduceToNat, Nat.reduceAdd, Nat.reduceLeDiff, true_and, and_true, Nat.le_refl, true_implies, forall_const, not_false_eq_true, false_implies, not_true_eq_false, reduceCtorEq, tl_s, tl_n, rf_s, true_or, or_true, hm.c]
  refine Mdl_crs_c (by omega) (w.p hs (by omega)) (w.r hs) (w.p ht (by omega)) (w.r ht) ?_
  refine B_Model_areCrossing_33 ?_
  simp only [wp_cons, wp_nil, List.getElem?_cons_zero, List.getElem?_cons_succ, List.set_cons_zero, List.set_cons_succ, s_ireturn, p1_s, rI_i, rI_z, rI_c, z_01, z_11, rt_Model_areCrossing, true_and, and_true, Nat.le_refl, true_implies, forall_const, not_false_eq_true, false_implies, not_true_eq_false, reduceCtorEq, tl_s, tl_n, rf_s, List.cons_append, List.nil_append, true_or, or_true, hm.c]
  refine ⟨?_, hQ⟩
  rcases hb with e | e <;> rw [e]
  · exact Or.inl rfl
  · exact Or.inr rfl
theorem Mdl_cse_c {d M s : Nat} (d4 : 4 ≤ d) {st : Sta} {r : Nat → Int} {A : Nat → Nat → Int} {h : g_H} {Q : g_Po} (hm : mdl h M r A) (hr : stR (A 1) st) (w : wfL st.1) (hs : s < st.1.length) (hQ : Q (some (.int (I (cseS (sg st.1 s))))) h) : Call Model_crossingsOf d 0 0 [.ref M, .int (I (s : Int))] h Q := by
  have d1 : 1 ≤ d := by omega
  obtain ⟨w1, w2, w3⟩ := w.2 s hs
  have hpc := pcs_le (S := sg st.1 s)
  have loop : ∀ (m i : Nat) (v : Int) (x4 : Option Value), i + m = pcs (sg st.1 s) → v = sm (fun i => cpf (pg (sg st.1 s).1 i) (pr (sg st.1 s).1 (i + 1)) (sg st.1 s) (i + 1)) i → G Model_crossingsOf d 0 0 0 0 4 [some (.ref M), some (.int (I (s : Int))), some (.int (I v)), some (.int (I (i : Int))), x4] [] h Q := by
    intro m
    induction m with
    | zero =>
      intro i v x4 hi hv
      refine B_Model_crossingsOf_4 ?_
      simp only [wp_cons, wp_nil, List.getElem?_cons_zero, List.getElem?_cons_succ, List.set_cons_zero, List.set_cons_succ, s_iload_n3, ldI_s, s_aload_n0, ldA_r, ldA_n, s_iload_n1, s_invokevirtual, rc_s, ob_s, List.drop_succ_cons, List.drop_zero, List.take_succ_cons, List.take_zero, List.reverse_cons, List.reverse_nil, List.nil_append, List.cons_append, List.length_cons, List.length_nil, d1, Int.reduceToNat, Nat.reduceAdd, Nat.reduceLeDiff, true_and, and_true, Nat.le_refl, true_implies, forall_const, not_false_eq_true, false_implies, not_true_eq_false, reduceCtorEq, tl_s, tl_n, rf_s, true_or, or_true, hm.c]
      refine Mdl_pcs_c (by omega) hm hr w hs ?_
      refine B_Model_crossingsOf_10 ?_
      simp only [wp_cons, wp_nil, List.getElem?_cons_zero, List.getElem?_cons_succ, List.set_cons_zero, List.set_cons_succ, s_if_icmp_ge, p2_s, true_and, and_true, Nat.le_refl, true_implies, forall_const, not_false_eq_true, false_implies, not_true_eq_false, reduceCtorEq, tl_s, tl_n, rf_s, List.cons_append, List.nil_append, true_or, or_true, hm.c]
      refine b_le (by omega) (by omega) (fun cc => ?_) (fun cc => absurd cc (by omega))
      refine B_Model_crossingsOf_60 ?_
      simp only [wp_cons, wp_nil, List.getElem?_cons_zero, List.getElem?_cons_succ, List.set_cons_zero, List.set_cons_succ, s_iload_n2, ldI_s, s_ireturn, p1_s, rI_i, rI_z, rI_c, z_01, z_11, rt_Model_crossingsOf, true_and, and_true, Nat.le_refl, true_implies, forall_const, not_false_eq_true, false_implies, not_true_eq_false, reduceCtorEq, tl_s, tl_n, rf_s, List.cons_append, List.nil_append, true_or, or_true, hm.c]
      rw [hv, show i = pcs (sg st.1 s) by omega]
      exact hQ
    | succ m ih =>
      intro i v x4 hi hv
      have inner : ∀ (n j : Nat) (u : Int), j + n = pcs (sg st.1 s) → i + 1 ≤ j → u = v + sm (fun j => if i + 1 ≤ j ∧ pcr (pg (sg st.1 s).1 i) (pr (sg st.1 s).1 (i + 1)) (pg (sg st.1 s).1 j) (pr (sg st.1 s).1 (j + 1)) = true then 1 else 0) j → G Model_crossingsOf d 0 0 0 0 18 [some (.ref M), some (.int (I (s : Int))), some (.int (I u)), some (.int (I (i : Int))), some (.int (I (j : Int)))] [] h Q := by
        intro n
        induction n with
        | zero =>
          intro j u hj hij hu
          refine B_Model_crossingsOf_18 ?_
          simp only [wp_cons, wp_nil, List.getElem?_cons_zero, List.getElem?_cons_succ, List.set_cons_zero, List.set_cons_succ, s_iload, ldI_s, s_aload_n0, ldA_r, ldA_n, s_iload_n1, s_invokevirtual, rc_s, ob_s, List.drop_succ_cons, List.drop_zero, List.take_succ_cons, List.take_zero, List.reverse_cons, List.reverse_nil, List.nil_append, List.cons_append, List.length_cons, List.length_nil, d1, Int.reduceToNat, Nat.reduceAdd, Nat.reduceLeDiff, true_and, and_true, Nat.le_refl, true_implies, forall_const, not_false_eq_true, false_implies, not_true_eq_false, reduceCtorEq, tl_s, tl_n, rf_s, true_or, or_true, hm.c]
          refine Mdl_pcs_c (by omega) hm hr w hs ?_
          refine B_Model_crossingsOf_25 ?_
          simp only [wp_cons, wp_nil, List.getElem?_cons_zero, List.getElem?_cons_succ, List.set_cons_zero, List.set_cons_succ, s_if_icmp_ge, p2_s, true_and, and_true, Nat.le_refl, true_implies, forall_const, not_false_eq_true, false_implies, not_true_eq_false, reduceCtorEq, tl_s, tl_n, rf_s, List.cons_append, List.nil_append, true_or, or_true, hm.c]
          refine b_le (by omega) (by omega) (fun cc => ?_) (fun cc => absurd cc (by omega))
          refine B_Model_crossingsOf_54 ?_
          simp only [wp_cons, wp_nil, List.getElem?_cons_zero, List.getElem?_cons_succ, List.set_cons_zero, List.set_cons_succ, s_iinc, ldI_s, s1_0, s1_s, kx_i, kx_r, kx_n, kx_l, kx_0, I_add, s_goto, true_and, and_true, Nat.le_refl, true_implies, forall_const, not_false_eq_true, false_implies, not_true_eq_false, reduceCtorEq, tl_s, tl_n, rf_s, List.cons_append, List.nil_append, true_or, or_true, hm.c]
          refine ih (i + 1) _ _ (by omega) ?_
          rw [hu, hv, show j = pcs (sg st.1 s) by omega]
          rfl
        | succ n ihn =>
          intro j u hj hij hu
          refine B_Model_crossingsOf_18 ?_
          simp only [wp_cons, wp_nil, List.getElem?_cons_zero, List.getElem?_cons_succ, List.set_cons_zero, List.set_cons_succ, s_iload, ldI_s, s_aload_n0, ldA_r, ldA_n, s_iload_n1, s_invokevirtual, rc_s, ob_s, List.drop_succ_cons, List.drop_zero, List.take_succ_cons, List.take_zero, List.reverse_cons, List.reverse_nil, List.nil_append, List.cons_append, List.length_cons, List.length_nil, d1, Int.reduceToNat, Nat.reduceAdd, Nat.reduceLeDiff, true_and, and_true, Nat.le_refl, true_implies, forall_const, not_false_eq_true, false_implies, not_true_eq_false, reduceCtorEq, tl_s, tl_n, rf_s, true_or, or_true, hm.c]
          refine Mdl_pcs_c (by omega) hm hr w hs ?_
          refine B_Model_crossingsOf_25 ?_
          simp only [wp_cons, wp_nil, List.getElem?_cons_zero, List.getElem?_cons_succ, List.set_cons_zero, List.set_cons_succ, s_if_icmp_ge, p2_s, true_and, and_true, Nat.le_refl, true_implies, forall_const, not_false_eq_true, false_implies, not_true_eq_false, reduceCtorEq, tl_s, tl_n, rf_s, List.cons_append, List.nil_append, true_or, or_true, hm.c]
          refine b_le (by omega) (by omega) (fun cc => absurd cc (by omega)) (fun cc => ?_)
          refine B_Model_crossingsOf_28 ?_
          simp only [wp_cons, wp_nil, List.getElem?_cons_zero, List.getElem?_cons_succ, List.set_cons_zero, List.set_cons_succ, s_iload_n2, ldI_s, s_aload_n0, ldA_r, ldA_n, s_iload_n1, s_iload_n3, s_iload, s_invokevirtual, rc_s, ob_s, List.drop_succ_cons, List.drop_zero, List.take_succ_cons, List.take_zero, List.reverse_cons, List.reverse_nil, List.nil_append, List.cons_append, List.length_cons, List.length_nil, d1, Int.reduceToNat, Nat.reduceAdd, Nat.reduceLeDiff, true_and, and_true, Nat.le_refl, true_implies, forall_const, not_false_eq_true, false_implies, not_true_eq_false, reduceCtorEq, tl_s, tl_n, rf_s, true_or, or_true, hm.c]
          refine Mdl_are_c (by omega) hm hr w hs hs (by omega) (by omega) ?_
          cases e : pcr (pg (sg st.1 s).1 i) (pr (sg st.1 s).1 (i + 1)) (pg (sg st.1 s).1 j) (pr (sg st.1 s).1 (j + 1)) with
          | true =>
            rw [show bi true = 1 from rfl]
            refine B_Model_crossingsOf_38 ?_
            simp only [wp_cons, wp_nil, List.getElem?_cons_zero, List.getElem?_cons_succ, List.set_cons_zero, List.set_cons_succ, s_ifCond_eq, p1_s, true_and, and_true, Nat.le_refl, true_implies, forall_const, not_false_eq_true, false_implies, not_true_eq_false, reduceCtorEq, tl_s, tl_n, rf_s, List.cons_append, List.nil_append, true_or, or_true, hm.c]
            refine b_eq (by omega) (by omega) (fun cc => absurd cc (by omega)) (fun cc => ?_)
            refine B_Model_crossingsOf_41 ?_
            simp only [wp_cons, wp_nil, List.getElem?_cons_zero, List.getElem?_cons_succ, List.set_cons_zero, List.set_cons_succ, s_iconst, s_goto, true_and, and_true, Nat.le_refl, true_implies, forall_const, not_false_eq_true, false_implies, not_true_eq_false, reduceCtorEq, tl_s, tl_n, rf_s, List.cons_append, List.nil_append, true_or, or_true, hm.c]
            refine B_Model_crossingsOf_46 ?_
            simp only [wp_cons, wp_nil, List.getElem?_cons_zero, List.getElem?_cons_succ, List.set_cons_zero, List.set_cons_succ, s_iadd, p2_s, I_add, s_istore_n2, p1_s, s1_0, s1_s, kx_i, kx_r, kx_n, kx_l, kx_0, s_iinc, ldI_s, s_goto, true_and, and_true, Nat.le_refl, true_implies, forall_const, not_false_eq_true, false_implies, not_true_eq_false, reduceCtorEq, tl_s, tl_n, rf_s, List.cons_append, List.nil_append, true_or, or_true, hm.c]
            exact ihn (j + 1) _ (by omega) (by omega) (by rw [hu]; show _ = v + (sm _ j + (if _ then 1 else 0)); rw [if_pos ⟨hij, e⟩]; omega)
          | false =>
            rw [show bi false = 0 from rfl]
            refine B_Model_crossingsOf_38 ?_
            simp only [wp_cons, wp_nil, List.getElem?_cons_zero, List.getElem?_cons_succ, List.set_cons_zero, List.set_cons_succ, s_ifCond_eq, p1_s, true_and, and_true, Nat.le_refl, true_implies, forall_const, not_false_eq_true, false_implies, not_true_eq_false, reduceCtorEq, tl_s, tl_n, rf_s, List.cons_append, List.nil_append, true_or, or_true, hm.c]
            refine B_Model_crossingsOf_45 ?_
            simp only [wp_cons, wp_nil, List.getElem?_cons_zero, List.getElem?_cons_succ, List.set_cons_zero, List.set_cons_succ, s_iconst, true_and, and_true, Nat.le_refl, true_implies, forall_const, not_false_eq_true, false_implies, not_true_eq_false, reduceCtorEq, tl_s, tl_n, rf_s, List.cons_append, List.nil_append, true_or, or_true, hm.c]
            refine B_Model_crossingsOf_46 ?_
            simp only [wp_cons, wp_nil, List.getElem?_cons_zero, List.getElem?_cons_succ, List.set_cons_zero, List.set_cons_succ, s_iadd, p2_s, I_add, s_istore_n2, p1_s, s1_0, s1_s, kx_i, kx_r, kx_n, kx_l, kx_0, s_iinc, ldI_s, s_goto, true_and, and_true, Nat.le_refl, true_implies, forall_const, not_false_eq_true, false_implies, not_true_eq_false, reduceCtorEq, tl_s, tl_n, rf_s, List.cons_append, List.nil_append, true_or, or_true, hm.c]
            exact ihn (j + 1) _ (by omega) (by omega) (by rw [hu]; show _ = v + (sm _ j + (if _ then 1 else 0)); rw [if_neg (fun q => by rw [e] at q; cases q.2)]; omega)
      refine B_Model_crossingsOf_4 ?_
      simp only [wp_cons, wp_nil, List.getElem?_cons_zero, List.getElem?_cons_succ, List.set_cons_zero, List.set_cons_succ, s_iload_n3, ldI_s, s_aload_n0, ldA_r, ldA_n, s_iload_n1, s_invokevirtual, rc_s, ob_s, List.drop_succ_cons, List.drop_zero, List.take_succ_cons, List.take_zero, List.reverse_cons, List.reverse_nil, List.nil_append, List.cons_append, List.length_cons, List.length_nil, d1, Int.reduceToNat, Nat.reduceAdd, Nat.reduceLeDiff, true_and, and_true, Nat.le_refl, true_implies, forall_const, not_false_eq_true, false_implies, not_true_eq_false, reduceCtorEq, tl_s, tl_n, rf_s, true_or, or_true, hm.c]
      refine Mdl_pcs_c (by omega) hm hr w hs ?_
      refine B_Model_crossingsOf_10 ?_
      simp only [wp_cons, wp_nil, List.getElem?_cons_zero, List.getElem?_cons_succ, List.set_cons_zero, List.set_cons_succ, s_if_icmp_ge, p2_s, true_and, and_true, Nat.le_refl, true_implies, forall_const, not_false_eq_true, false_implies, not_true_eq_false, reduceCtorEq, tl_s, tl_n, rf_s, List.cons_append, List.nil_append, true_or, or_true, hm.c]
      refine b_le (by omega) (by omega) (fun cc => absurd cc (by omega)) (fun cc => ?_)
      refine B_Model_crossingsOf_13 ?_
      simp only [wp_cons, wp_nil, List.getElem?_cons_zero, List.getElem?_cons_succ, List.set_cons_zero, List.set_cons_succ, s_iload_n3, ldI_s, s_iconst, s_iadd, p2_s, I_add, s_istore, p1_s, s1_0, s1_s, kx_i, kx_r, kx_n, kx_l, kx_0, true_and, and_true, Nat.le_refl, true_implies, forall_const, not_false_eq_true, false_implies, not_true_eq_false, reduceCtorEq, tl_s, tl_n, rf_s, List.cons_append, List.nil_append, true_or, or_true, hm.c]
      exact inner (pcs (sg st.1 s) - (i + 1)) (i + 1) v (by omega) (by omega) (by rw [sm_0 _ _ (fun j hj => if_neg (by omega))]; omega)
  refine Call.intro (by rfl) (Nat.le_of_ble_eq_true rfl) ?_
  refine G.eqL (L := [some (.ref _), some (.int _), none, none, none]) rfl ?_
  refine B_Model_crossingsOf_0 ?_
  simp only [wp_cons, wp_nil, List.getElem?_cons_zero, List.getElem?_cons_succ, List.set_cons_zero, List.set_cons_succ, s_iconst, s_istore_n2, p1_s, s1_0, s1_s, kx_i, kx_r, kx_n, kx_l, kx_0, s_istore_n3, true_and, and_true, Nat.le_refl, true_implies, forall_const, not_false_eq_true, false_implies, not_true_eq_false, reduceCtorEq, tl_s, tl_n, rf_s, List.cons_append, List.nil_append, true_or, or_true]
  exact loop (pcs (sg st.1 s)) 0 0 _ (by omega) rfl
theorem Mdl_cx2_c {d M s t : Nat} (d4 : 4 ≤ d) {st : Sta} {r : Nat → Int} {A : Nat → Nat → Int} {h : g_H} {Q : g_Po} (hm : mdl h M r A) (hr : stR (A 1) st) (w : wfL st.1) (hs : s < st.1.length) (ht : t < st.1.length) (hQ : Q (some (.int (I (cx2 (sg st.1 s) (sg st.1 t))))) h) : Call Model_crossingsOfBoth d 0 0 [.ref M, .int (I (s : Int)), .int (I (t : Int))] h Q := by
  have d1 : 1 ≤ d := by omega
  have hpc := pcs_le (S := sg st.1 s)
  have hpt := pcs_le (S := sg st.1 t)
  have w2 := (w.2 s hs).2.1
  have w3 := (w.2 t ht).2.1
  have loop : ∀ (m i : Nat) (v : Int) (x5 : Option Value), i + m = pcs (sg st.1 s) → v = sm (fun i => cpf (pg (sg st.1 s).1 i) (pr (sg st.1 s).1 (i + 1)) (sg st.1 t) 0) i → G Model_crossingsOfBoth d 0 0 0 0 5 [some (.ref M), some (.int (I (s : Int))), some (.int (I (t : Int))), some (.int (I v)), some (.int (I (i : Int))), x5] [] h Q := by
    intro m
    induction m with
    | zero =>
      intro i v x5 hi hv
      refine B_Model_crossingsOfBoth_5 ?_
      simp only [wp_cons, wp_nil, List.getElem?_cons_zero, List.getElem?_cons_succ, List.set_cons_zero, List.set_cons_succ, s_iload, ldI_s, s_aload_n0, ldA_r, ldA_n, s_iload_n1, s_invokevirtual, rc_s, ob_s, List.drop_succ_cons, List.drop_zero, List.take_succ_cons, List.take_zero, List.reverse_cons, List.reverse_nil, List.nil_append, List.cons_append, List.length_cons, List.length_nil, d1, Int.reduceToNat, Nat.reduceAdd, Nat.reduceLeDiff, true_and, and_true, Nat.le_refl, true_implies, forall_const, not_false_eq_true, false_implies, not_true_eq_false, reduceCtorEq, tl_s, tl_n, rf_s, true_or, or_true, hm.c]
      refine Mdl_pcs_c (by omega) hm hr w hs ?_
      refine B_Model_crossingsOfBoth_12 ?_
      simp only [wp_cons, wp_nil, List.getElem?_cons_zero, List.getElem?_cons_succ, List.set_cons_zero, List.set_cons_succ, s_if_icmp_ge, p2_s, true_and, and_true, Nat.le_refl, true_implies, forall_const, not_false_eq_true, false_implies, not_true_eq_false, reduceCtorEq, tl_s, tl_n, rf_s, List.cons_append, List.nil_append, true_or, or_true, hm.c]
      refine b_le (by omega) (by omega) (fun cc => ?_) (fun cc => absurd cc (by omega))
      refine B_Model_crossingsOfBoth_61 ?_
      simp only [wp_cons, wp_nil, List.getElem?_cons_zero, List.getElem?_cons_succ, List.set_cons_zero, List.set_cons_succ, s_iload_n3, ldI_s, s_ireturn, p1_s, rI_i, rI_z, rI_c, z_01, z_11, rt_Model_crossingsOfBoth, true_and, and_true, Nat.le_refl, true_implies, forall_const, not_false_eq_true, false_implies, not_true_eq_false, reduceCtorEq, tl_s, tl_n, rf_s, List.cons_append, List.nil_append, true_or, or_true, hm.c]
      rw [hv, show i = pcs (sg st.1 s) by omega]
      exact hQ
    | succ m ih =>
      intro i v x5 hi hv
      have inner : ∀ (n j : Nat) (u : Int), j + n = pcs (sg st.1 t) → u = v + sm (fun j => if 0 ≤ j ∧ pcr (pg (sg st.1 s).1 i) (pr (sg st.1 s).1 (i + 1)) (pg (sg st.1 t).1 j) (pr (sg st.1 t).1 (j + 1)) = true then 1 else 0) j → G Model_crossingsOfBoth d 0 0 0 0 18 [some (.ref M), some (.int (I (s : Int))), some (.int (I (t : Int))), some (.int (I u)), some (.int (I (i : Int))), some (.int (I (j : Int)))] [] h Q := by
        intro n
        induction n with
        | zero =>
          intro j u hj hu
          refine B_Model_crossingsOfBoth_18 ?_
          simp only [wp_cons, wp_nil, List.getElem?_cons_zero, List.getElem?_cons_succ, List.set_cons_zero, List.set_cons_succ, s_iload, ldI_s, s_aload_n0, ldA_r, ldA_n, s_iload_n2, s_invokevirtual, rc_s, ob_s, List.drop_succ_cons, List.drop_zero, List.take_succ_cons, List.take_zero, List.reverse_cons, List.reverse_nil, List.nil_append, List.cons_append, List.length_cons, List.length_nil, d1, Int.reduceToNat, Nat.reduceAdd, Nat.reduceLeDiff, true_and, and_true, Nat.le_refl, true_implies, forall_const, not_false_eq_true, false_implies, not_true_eq_false, reduceCtorEq, tl_s, tl_n, rf_s, true_or, or_true, hm.c]
          refine Mdl_pcs_c (by omega) hm hr w ht ?_
          refine B_Model_crossingsOfBoth_25 ?_
          simp only [wp_cons, wp_nil, List.getElem?_cons_zero, List.getElem?_cons_succ, List.set_cons_zero, List.set_cons_succ, s_if_icmp_ge, p2_s, true_and, and_true, Nat.le_refl, true_implies, forall_const, not_false_eq_true, false_implies, not_true_eq_false, reduceCtorEq, tl_s, tl_n, rf_s, List.cons_append, List.nil_append, true_or, or_true, hm.c]
          refine b_le (by omega) (by omega) (fun cc => ?_) (fun cc => absurd cc (by omega))
          refine B_Model_crossingsOfBoth_55 ?_
          simp only [wp_cons, wp_nil, List.getElem?_cons_zero, List.getElem?_cons_succ, List.set_cons_zero, List.set_cons_succ, s_iinc, ldI_s, s1_0, s1_s, kx_i, kx_r, kx_n, kx_l, kx_0, I_add, s_goto, true_and, and_true, Nat.le_refl, true_implies, forall_const, not_false_eq_true, false_implies, not_true_eq_false, reduceCtorEq, tl_s, tl_n, rf_s, List.cons_append, List.nil_append, true_or, or_true, hm.c]
          refine ih (i + 1) _ _ (by omega) ?_
          rw [hu, hv, show j = pcs (sg st.1 t) by omega]
          rfl
        | succ n ihn =>
          intro j u hj hu
          refine B_Model_crossingsOfBoth_18 ?_
          simp only [wp_cons, wp_nil, List.getElem?_cons_zero, List.getElem?_cons_succ, List.set_cons_zero, List.set_cons_succ, s_iload, ldI_s, s_aload_n0, ldA_r, ldA_n, s_iload_n2, s_invokevirtual, rc_s, ob_s, List.drop_succ_cons, List.drop_zero, List.take_succ_cons, List.take_zero, List.reverse_cons, List.reverse_nil, List.nil_append, List.cons_append, List.length_cons, List.length_nil, d1, Int.reduceToNat, Nat.reduceAdd, Nat.reduceLeDiff, true_and, and_true, Nat.le_refl, true_implies, forall_const, not_false_eq_true, false_implies, not_true_eq_false, reduceCtorEq, tl_s, tl_n, rf_s, true_or, or_true, hm.c]
          refine Mdl_pcs_c (by omega) hm hr w ht ?_
          refine B_Model_crossingsOfBoth_25 ?_
          simp only [wp_cons, wp_nil, List.getElem?_cons_zero, List.getElem?_cons_succ, List.set_cons_zero, List.set_cons_succ, s_if_icmp_ge, p2_s, true_and, and_true, Nat.le_refl, true_implies, forall_const, not_false_eq_true, false_implies, not_true_eq_false, reduceCtorEq, tl_s, tl_n, rf_s, List.cons_append, List.nil_append, true_or, or_true, hm.c]
          refine b_le (by omega) (by omega) (fun cc => absurd cc (by omega)) (fun cc => ?_)
          refine B_Model_crossingsOfBoth_28 ?_
          simp only [wp_cons, wp_nil, List.getElem?_cons_zero, List.getElem?_cons_succ, List.set_cons_zero, List.set_cons_succ, s_iload_n3, ldI_s, s_aload_n0, ldA_r, ldA_n, s_iload_n1, s_iload, s_iload_n2, s_invokevirtual, rc_s, ob_s, List.drop_succ_cons, List.drop_zero, List.take_succ_cons, List.take_zero, List.reverse_cons, List.reverse_nil, List.nil_append, List.cons_append, List.length_cons, List.length_nil, d1, Int.reduceToNat, Nat.reduceAdd, Nat.reduceLeDiff, true_and, and_true, Nat.le_refl, true_implies, forall_const, not_false_eq_true, false_implies, not_true_eq_false, reduceCtorEq, tl_s, tl_n, rf_s, true_or, or_true, hm.c]
          refine Mdl_are_c (by omega) hm hr w hs ht (by omega) (by omega) ?_
          cases e : pcr (pg (sg st.1 s).1 i) (pr (sg st.1 s).1 (i + 1)) (pg (sg st.1 t).1 j) (pr (sg st.1 t).1 (j + 1)) with
          | true =>
            rw [show bi true = 1 from rfl]
            refine B_Model_crossingsOfBoth_39 ?_
            simp only [wp_cons, wp_nil, List.getElem?_cons_zero, List.getElem?_cons_succ, List.set_cons_zero, List.set_cons_succ, s_ifCond_eq, p1_s, true_and, and_true, Nat.le_refl, true_implies, forall_const, not_false_eq_true, false_implies, not_true_eq_false, reduceCtorEq, tl_s, tl_n, rf_s, List.cons_append, List.nil_append, true_or, or_true, hm.c]
            refine b_eq (by omega) (by omega) (fun cc => absurd cc (by omega)) (fun cc => ?_)
            refine B_Model_crossingsOfBoth_42 ?_
            simp only [wp_cons, wp_nil, List.getElem?_cons_zero, List.getElem?_cons_succ, List.set_cons_zero, List.set_cons_succ, s_iconst, s_goto, true_and, and_true, Nat.le_refl, true_implies, forall_const, not_false_eq_true, false_implies, not_true_eq_false, reduceCtorEq, tl_s, tl_n, rf_s, List.cons_append, List.nil_append, true_or, or_true, hm.c]
            refine B_Model_crossingsOfBoth_47 ?_
            simp only [wp_cons, wp_nil, List.getElem?_cons_zero, List.getElem?_cons_succ, List.set_cons_zero, List.set_cons_succ, s_iadd, p2_s, I_add, s_istore_n3, p1_s, s1_0, s1_s, kx_i, kx_r, kx_n, kx_l, kx_0, s_iinc, ldI_s, s_goto, true_and, and_true, Nat.le_refl, true_implies, forall_const, not_false_eq_true, false_implies, not_true_eq_false, reduceCtorEq, tl_s, tl_n, rf_s, List.cons_append, List.nil_append, true_or, or_true, hm.c]
            exact ihn (j + 1) _ (by omega) (by rw [hu]; show _ = v + (sm _ j + (if _ then 1 else 0)); rw [if_pos ⟨Nat.zero_le _, e⟩]; omega)
          | false =>
            rw [show bi false = 0 from rfl]
            refine B_Model_crossingsOfBoth_39 ?_
            simp only [wp_cons, wp_nil, List.getElem?_cons_zero, List.getElem?_cons_succ, List.set_cons_zero, List.set_cons_succ, s_ifCond_eq, p1_s, true_and, and_true, Nat.le_refl, true_implies, forall_const, not_false_eq_true, false_implies, not_true_eq_false, reduceCtorEq, tl_s, tl_n, rf_s, List.cons_append, List.nil_append, true_or, or_true, hm.c]
            refine B_Model_crossingsOfBoth_46 ?_
            simp only [wp_cons, wp_nil, List.getElem?_cons_zero, List.getElem?_cons_succ, List.set_cons_zero, List.set_cons_succ, s_iconst, true_and, and_true, Nat.le_refl, true_implies, forall_const, not_false_eq_true, false_implies, not_true_eq_false, reduceCtorEq, tl_s, tl_n, rf_s, List.cons_append, List.nil_append, true_or, or_true, hm.c]
            refine B_Model_crossingsOfBoth_47 ?_
            simp only [wp_cons, wp_nil, List.getElem?_cons_zero, List.getElem?_cons_succ, List.set_cons_zero, List.set_cons_succ, s_iadd, p2_s, I_add, s_istore_n3, p1_s, s1_0, s1_s, kx_i, kx_r, kx_n, kx_l, kx_0, s_iinc, ldI_s, s_goto, true_and, and_true, Nat.le_refl, true_implies, forall_const, not_false_eq_true, false_implies, not_true_eq_false, reduceCtorEq, tl_s, tl_n, rf_s, List.cons_append, List.nil_append, true_or, or_true, hm.c]
            exact ihn (j + 1) _ (by omega) (by rw [hu]; show _ = v + (sm _ j + (if _ then 1 else 0)); rw [if_neg (fun q => by rw [e] at q; cases q.2)]; omega)
      refine B_Model_crossingsOfBoth_5 ?_
      simp only [wp_cons, wp_nil, List.getElem?_cons_zero, List.getElem?_cons_succ, List.set_cons_zero, List.set_cons_succ, s_iload, ldI_s, s_aload_n0, ldA_r, ldA_n, s_iload_n1, s_invokevirtual, rc_s, ob_s, List.drop_succ_cons, List.drop_zero, List.take_succ_cons, List.take_zero, List.reverse_cons, List.reverse_nil, List.nil_append, List.cons_append, List.length_cons, List.length_nil, d1, Int.reduceToNat, Nat.reduceAdd, Nat.reduceLeDiff, true_and, and_true, Nat.le_refl, true_implies, forall_const, not_false_eq_true, false_implies, not_true_eq_false, reduceCtorEq, tl_s, tl_n, rf_s, true_or, or_true, hm.c]
      refine Mdl_pcs_c (by omega) hm hr w hs ?_
      refine B_Model_crossingsOfBoth_12 ?_
      simp only [wp_cons, wp_nil, List.getElem?_cons_zero, List.getElem?_cons_succ, List.set_cons_zero, List.set_cons_succ, s_if_icmp_ge, p2_s, true_and, and_true, Nat.le_refl, true_implies, forall_const, not_false_eq_true, false_implies, not_true_eq_false, reduceCtorEq, tl_s, tl_n, rf_s, List.cons_append, List.nil_append, true_or, or_true, hm.c]
      refine b_le (by omega) (by omega) (fun cc => absurd cc (by omega)) (fun cc => ?_)
      refine B_Model_crossingsOfBoth_15 ?_
      simp only [wp_cons, wp_nil, List.getElem?_cons_zero, List.getElem?_cons_succ, List.set_cons_zero, List.set_cons_succ, s_iconst, s_istore, p1_s, s1_0, s1_s, kx_i, kx_r, kx_n, kx_l, kx_0, true_and, and_true, Nat.le_refl, true_implies, forall_const, not_false_eq_true, false_implies, not_true_eq_false, reduceCtorEq, tl_s, tl_n, rf_s, List.cons_append, List.nil_append, true_or, or_true, hm.c]
      exact inner (pcs (sg st.1 t)) 0 v (by omega) (by show v = v + 0; omega)
  refine Call.intro (by rfl) (Nat.le_of_ble_eq_true rfl) ?_
  refine G.eqL (L := [some (.ref _), some (.int _), some (.int _), none, none, none]) rfl ?_
  refine B_Model_crossingsOfBoth_0 ?_
  simp only [wp_cons, wp_nil, List.getElem?_cons_zero, List.getElem?_cons_succ, List.set_cons_zero, List.set_cons_succ, s_iconst, s_istore_n3, p1_s, s1_0, s1_s, kx_i, kx_r, kx_n, kx_l, kx_0, s_istore, true_and, and_true, Nat.le_refl, true_implies, forall_const, not_false_eq_true, false_implies, not_true_eq_false, reduceCtorEq, tl_s, tl_n, rf_s, List.cons_append, List.nil_append, true_or, or_true]
  exact loop (pcs (sg st.1 s)) 0 0 _ (by omega) rfl
theorem Mdl_bnd_c {d M s : Nat} {x z : Bool} (d3 : 3 ≤ d) {st : Sta} {r : Nat → Int} {A : Nat → Nat → Int} {h : g_H} {Q : g_Po} (hm : mdl h M r A) (hr : stR (A 1) st) (w : wfL st.1) (hs : s < st.1.length) (hQ : Q (some (.int (I (bndS (sg st.1 s) x z)))) h) : Call Model_bound d 0 0 [.ref M, .int (I (s : Int)), .int (I (bi x)), .int (I (bi (!z)))] h Q := by
  have d1 : 1 ≤ d := by omega
  obtain ⟨w1, w2, w3⟩ := w.2 s hs
  have hf : ∀ i, i < (sg st.1 s).1.length → 0 ≤ (if x = true then pg (sg st.1 s).1 i / 1000 else pg (sg st.1 s).1 i % 1000) ∧ (if x = true then pg (sg st.1 s).1 i / 1000 else pg (sg st.1 s).1 i % 1000) ≤ 999 := fun i hi => by
    have := w3 i hi
    split <;> omega
  have loop : ∀ (m k : Nat) (v : Int) (x6 : Option Value), k + m = (sg st.1 s).1.length → v = (if k = 0 then (if z = true then 0 else 999) else bnf z (fun i => if x = true then pg (sg st.1 s).1 i / 1000 else pg (sg st.1 s).1 i % 1000) (k - 1)) → G Model_bound d 0 0 0 0 16 [some (.ref M), some (.int (I (s : Int))), some (.int (I (bi x))), some (.int (I (bi (!z)))), some (.int (I v)), some (.int (I (k : Int))), x6] [] h Q := by
    intro m
    induction m with
    | zero =>
      intro k v x6 hk hv
      rw [if_neg (by omega), show k - 1 = (sg st.1 s).1.length - 1 by omega] at hv
      refine B_Model_bound_16 ?_
      simp only [wp_cons, wp_nil, List.getElem?_cons_zero, List.getElem?_cons_succ, List.set_cons_zero, List.set_cons_succ, s_iload, ldI_s, s_aload_n0, ldA_r, ldA_n, s_iload_n1, s_invokevirtual, rc_s, ob_s, List.drop_succ_cons, List.drop_zero, List.take_succ_cons, List.take_zero, List.reverse_cons, List.reverse_nil, List.nil_append, List.cons_append, List.length_cons, List.length_nil, d1, Int.reduceToNat, Nat.reduceAdd, Nat.reduceLeDiff, true_and, and_true, Nat.le_refl, true_implies, forall_const, not_false_eq_true, false_implies, not_true_eq_false, reduceCtorEq, tl_s, tl_n, rf_s, true_or, or_true, hm.c]
      refine Mdl_len_c (by omega) hm hr w hs ?_
      refine B_Model_bound_23 ?_
      simp only [wp_cons, wp_nil, List.getElem?_cons_zero, List.getElem?_cons_succ, List.set_cons_zero, List.set_cons_succ, s_if_icmp_ge, p2_s, true_and, and_true, Nat.le_refl, true_implies, forall_const, not_false_eq_true, false_implies, not_true_eq_false, reduceCtorEq, tl_s, tl_n, rf_s, List.cons_append, List.nil_append, true_or, or_true, hm.c]
      refine b_le (by omega) (by omega) (fun cc => ?_) (fun cc => absurd cc (by omega))
      refine B_Model_bound_98 ?_
      simp only [wp_cons, wp_nil, List.getElem?_cons_zero, List.getElem?_cons_succ, List.set_cons_zero, List.set_cons_succ, s_iload, ldI_s, s_ireturn, p1_s, rI_i, rI_z, rI_c, z_01, z_11, rt_Model_bound, true_and, and_true, Nat.le_refl, true_implies, forall_const, not_false_eq_true, false_implies, not_true_eq_false, reduceCtorEq, tl_s, tl_n, rf_s, List.cons_append, List.nil_append, true_or, or_true, hm.c]
      rw [hv]
      exact hQ
    | succ m ih =>
      intro k v x6 hk hv
      have b1 := w.p hs (k := k) (by omega)
      have hvb : 0 ≤ v ∧ v ≤ 999 := by
        rw [hv]
        split
        · split <;> omega
        · exact bnf_bd _ _ _ (fun j hj => hf j (by omega))
      have key : ∀ u : Int, 0 ≤ u ∧ u ≤ 999 → u = (if x = true then pg (sg st.1 s).1 k / 1000 else pg (sg st.1 s).1 k % 1000) → G Model_bound d 0 0 0 0 53 [some (.ref M), some (.int (I (s : Int))), some (.int (I (bi x))), some (.int (I (bi (!z)))), some (.int (I v)), some (.int (I (k : Int))), x6] [.int (I u)] h Q := by
        intro u hu he
        have hn : ∀ n : Int, n = mmx z v u → n = (if k + 1 = 0 then (if z = true then 0 else 999) else bnf z (fun i => if x = true then pg (sg st.1 s).1 i / 1000 else pg (sg st.1 s).1 i % 1000) (k + 1 - 1)) := by
          intro n hn
          rw [hn, if_neg (by omega), show k + 1 - 1 = k by omega]
          by_cases e : k = 0
          · subst e
            rw [if_pos rfl] at hv
            show mmx z v u = (if x = true then pg (sg st.1 s).1 0 / 1000 else pg (sg st.1 s).1 0 % 1000)
            rw [← he, hv]
            unfold mmx
            cases z
            · rw [if_neg (by decide), if_neg (by decide)]; omega
            · rw [if_pos rfl, if_pos rfl]; omega
          · rw [if_neg e] at hv
            obtain ⟨j, rfl⟩ : ∃ j, k = j + 1 := ⟨k - 1, by omega⟩
            rw [he, hv]
            rfl
        cases z with
        | true =>
          rw [show bi (!true) = 0 from rfl] at ih ⊢
          by_cases c : u ≤ v
          · refine B_Model_bound_53 ?_
            simp only [wp_cons, wp_nil, List.getElem?_cons_zero, List.getElem?_cons_succ, List.set_cons_zero, List.set_cons_succ, s_istore, p1_s, s1_0, s1_s, kx_i, kx_r, kx_n, kx_l, kx_0, s_iload_n3, ldI_s, s_ifCond_eq, true_and, and_true, Nat.le_refl, true_implies, forall_const, not_false_eq_true, false_implies, not_true_eq_false, reduceCtorEq, tl_s, tl_n, rf_s, List.cons_append, List.nil_append, true_or, or_true]
            refine B_Model_bound_76 ?_
            simp only [wp_cons, wp_nil, List.getElem?_cons_zero, List.getElem?_cons_succ, List.set_cons_zero, List.set_cons_succ, s_iload, ldI_s, s_if_icmp_le, p2_s, true_and, and_true, Nat.le_refl, true_implies, forall_const, not_false_eq_true, false_implies, not_true_eq_false, reduceCtorEq, tl_s, tl_n, rf_s, List.cons_append, List.nil_append, true_or, or_true]
            refine b_le (by omega) (by omega) (fun cc => ?_) (fun cc => absurd cc (by omega))
            refine B_Model_bound_88 ?_
            simp only [wp_cons, wp_nil, List.getElem?_cons_zero, List.getElem?_cons_succ, List.set_cons_zero, List.set_cons_succ, s_iload, ldI_s, true_and, and_true, Nat.le_refl, true_implies, forall_const, not_false_eq_true, false_implies, not_true_eq_false, reduceCtorEq, tl_s, tl_n, rf_s, List.cons_append, List.nil_append, true_or, or_true]
            refine B_Model_bound_90 ?_
            simp only [wp_cons, wp_nil, List.getElem?_cons_zero, List.getElem?_cons_succ, List.set_cons_zero, List.set_cons_succ, s_istore, p1_s, s1_0, s1_s, kx_i, kx_r, kx_n, kx_l, kx_0, s_iinc, ldI_s, I_add, s_goto, true_and, and_true, Nat.le_refl, true_implies, forall_const, not_false_eq_true, false_implies, not_true_eq_false, reduceCtorEq, tl_s, tl_n, rf_s, List.cons_append, List.nil_append, true_or, or_true]
            exact ih (k + 1) _ _ (by omega) (hn _ (by unfold mmx; rw [if_pos rfl]; omega))
          · refine B_Model_bound_53 ?_
            simp only [wp_cons, wp_nil, List.getElem?_cons_zero, List.getElem?_cons_succ, List.set_cons_zero, List.set_cons_succ, s_istore, p1_s, s1_0, s1_s, kx_i, kx_r, kx_n, kx_l, kx_0, s_iload_n3, ldI_s, s_ifCond_eq, true_and, and_true, Nat.le_refl, true_implies, forall_const, not_false_eq_true, false_implies, not_true_eq_false, reduceCtorEq, tl_s, tl_n, rf_s, List.cons_append, List.nil_append, true_or, or_true]
            refine B_Model_bound_76 ?_
            simp only [wp_cons, wp_nil, List.getElem?_cons_zero, List.getElem?_cons_succ, List.set_cons_zero, List.set_cons_succ, s_iload, ldI_s, s_if_icmp_le, p2_s, true_and, and_true, Nat.le_refl, true_implies, forall_const, not_false_eq_true, false_implies, not_true_eq_false, reduceCtorEq, tl_s, tl_n, rf_s, List.cons_append, List.nil_append, true_or, or_true]
            refine b_le (by omega) (by omega) (fun cc => absurd cc (by omega)) (fun cc => ?_)
            refine B_Model_bound_83 ?_
            simp only [wp_cons, wp_nil, List.getElem?_cons_zero, List.getElem?_cons_succ, List.set_cons_zero, List.set_cons_succ, s_iload, ldI_s, s_goto, true_and, and_true, Nat.le_refl, true_implies, forall_const, not_false_eq_true, false_implies, not_true_eq_false, reduceCtorEq, tl_s, tl_n, rf_s, List.cons_append, List.nil_append, true_or, or_true]
            refine B_Model_bound_90 ?_
            simp only [wp_cons, wp_nil, List.getElem?_cons_zero, List.getElem?_cons_succ, List.set_cons_zero, List.set_cons_succ, s_istore, p1_s, s1_0, s1_s, kx_i, kx_r, kx_n, kx_l, kx_0, s_iinc, ldI_s, I_add, s_goto, true_and, and_true, Nat.le_refl, true_implies, forall_const, not_false_eq_true, false_implies, not_true_eq_false, reduceCtorEq, tl_s, tl_n, rf_s, List.cons_append, List.nil_append, true_or, or_true]
            exact ih (k + 1) _ _ (by omega) (hn _ (by unfold mmx; rw [if_pos rfl]; omega))
        | false =>
          rw [show bi (!false) = 1 from rfl] at ih ⊢
          by_cases c : v ≤ u
          · refine B_Model_bound_53 ?_
            simp only [wp_cons, wp_nil, List.getElem?_cons_zero, List.getElem?_cons_succ, List.set_cons_zero, List.set_cons_succ, s_istore, p1_s, s1_0, s1_s, kx_i, kx_r, kx_n, kx_l, kx_0, s_iload_n3, ldI_s, s_ifCond_eq, true_and, and_true, Nat.le_refl, true_implies, forall_const, not_false_eq_true, false_implies, not_true_eq_false, reduceCtorEq, tl_s, tl_n, rf_s, List.cons_append, List.nil_append, true_or, or_true]
            refine b_eq (by omega) (by omega) (fun cc => absurd cc (by omega)) (fun cc => ?_)
            refine B_Model_bound_59 ?_
            simp only [wp_cons, wp_nil, List.getElem?_cons_zero, List.getElem?_cons_succ, List.set_cons_zero, List.set_cons_succ, s_iload, ldI_s, s_if_icmp_ge, p2_s, true_and, and_true, Nat.le_refl, true_implies, forall_const, not_false_eq_true, false_implies, not_true_eq_false, reduceCtorEq, tl_s, tl_n, rf_s, List.cons_append, List.nil_append, true_or, or_true]
            refine b_le (by omega) (by omega) (fun cc => ?_) (fun cc => absurd cc (by omega))
            refine B_Model_bound_71 ?_
            simp only [wp_cons, wp_nil, List.getElem?_cons_zero, List.getElem?_cons_succ, List.set_cons_zero, List.set_cons_succ, s_iload, ldI_s, s_goto, true_and, and_true, Nat.le_refl, true_implies, forall_const, not_false_eq_true, false_implies, not_true_eq_false, reduceCtorEq, tl_s, tl_n, rf_s, List.cons_append, List.nil_append, true_or, or_true]
            refine B_Model_bound_90 ?_
            simp only [wp_cons, wp_nil, List.getElem?_cons_zero, List.getElem?_cons_succ, List.set_cons_zero, List.set_cons_succ, s_istore, p1_s, s1_0, s1_s, kx_i, kx_r, kx_n, kx_l, kx_0, s_iinc, ldI_s, I_add, s_goto, true_and, and_true, Nat.le_refl, true_implies, forall_const, not_false_eq_true, false_implies, not_true_eq_false, reduceCtorEq, tl_s, tl_n, rf_s, List.cons_append, List.nil_append, true_or, or_true]
            exact ih (k + 1) _ _ (by omega) (hn _ (by unfold mmx; rw [if_neg (by decide)]; omega))
          · refine B_Model_bound_53 ?_
            simp only [wp_cons, wp_nil, List.getElem?_cons_zero, List.getElem?_cons_succ, List.set_cons_zero, List.set_cons_succ, s_istore, p1_s, s1_0, s1_s, kx_i, kx_r, kx_n, kx_l, kx_0, s_iload_n3, ldI_s, s_ifCond_eq, true_and, and_true, Nat.le_refl, true_implies, forall_const, not_false_eq_true, false_implies, not_true_eq_false, reduceCtorEq, tl_s, tl_n, rf_s, List.cons_append, List.nil_append, true_or, or_true]
            refine b_eq (by omega) (by omega) (fun cc => absurd cc (by omega)) (fun cc => ?_)
            refine B_Model_bound_59 ?_
            simp only [wp_cons, wp_nil, List.getElem?_cons_zero, List.getElem?_cons_succ, List.set_cons_zero, List.set_cons_succ, s_iload, ldI_s, s_if_icmp_ge, p2_s, true_and, and_true, Nat.le_refl, true_implies, forall_const, not_false_eq_true, false_implies, not_true_eq_false, reduceCtorEq, tl_s, tl_n, rf_s, List.cons_append, List.nil_append, true_or, or_true]
            refine b_le (by omega) (by omega) (fun cc => absurd cc (by omega)) (fun cc => ?_)
            refine B_Model_bound_66 ?_
            simp only [wp_cons, wp_nil, List.getElem?_cons_zero, List.getElem?_cons_succ, List.set_cons_zero, List.set_cons_succ, s_iload, ldI_s, s_goto, true_and, and_true, Nat.le_refl, true_implies, forall_const, not_false_eq_true, false_implies, not_true_eq_false, reduceCtorEq, tl_s, tl_n, rf_s, List.cons_append, List.nil_append, true_or, or_true]
            refine B_Model_bound_90 ?_
            simp only [wp_cons, wp_nil, List.getElem?_cons_zero, List.getElem?_cons_succ, List.set_cons_zero, List.set_cons_succ, s_istore, p1_s, s1_0, s1_s, kx_i, kx_r, kx_n, kx_l, kx_0, s_iinc, ldI_s, I_add, s_goto, true_and, and_true, Nat.le_refl, true_implies, forall_const, not_false_eq_true, false_implies, not_true_eq_false, reduceCtorEq, tl_s, tl_n, rf_s, List.cons_append, List.nil_append, true_or, or_true]
            exact ih (k + 1) _ _ (by omega) (hn _ (by unfold mmx; rw [if_neg (by decide)]; omega))
      refine B_Model_bound_16 ?_
      simp only [wp_cons, wp_nil, List.getElem?_cons_zero, List.getElem?_cons_succ, List.set_cons_zero, List.set_cons_succ, s_iload, ldI_s, s_aload_n0, ldA_r, ldA_n, s_iload_n1, s_invokevirtual, rc_s, ob_s, List.drop_succ_cons, List.drop_zero, List.take_succ_cons, List.take_zero, List.reverse_cons, List.reverse_nil, List.nil_append, List.cons_append, List.length_cons, List.length_nil, d1, Int.reduceToNat, Nat.reduceAdd, Nat.reduceLeDiff, true_and, and_true, Nat.le_refl, true_implies, forall_const, not_false_eq_true, false_implies, not_true_eq_false, reduceCtorEq, tl_s, tl_n, rf_s, true_or, or_true, hm.c]
      refine Mdl_len_c (by omega) hm hr w hs ?_
      cases x with
      | true =>
        rw [show bi true = 1 from rfl] at key ⊢
        refine B_Model_bound_23 ?_
        simp only [wp_cons, wp_nil, List.getElem?_cons_zero, List.getElem?_cons_succ, List.set_cons_zero, List.set_cons_succ, s_if_icmp_ge, p2_s, true_and, and_true, Nat.le_refl, true_implies, forall_const, not_false_eq_true, false_implies, not_true_eq_false, reduceCtorEq, tl_s, tl_n, rf_s, List.cons_append, List.nil_append, true_or, or_true, hm.c]
        refine b_le (by omega) (by omega) (fun cc => absurd cc (by omega)) (fun cc => ?_)
        refine B_Model_bound_26 ?_
        simp only [wp_cons, wp_nil, List.getElem?_cons_zero, List.getElem?_cons_succ, List.set_cons_zero, List.set_cons_succ, s_iload_n2, ldI_s, s_ifCond_eq, p1_s, true_and, and_true, Nat.le_refl, true_implies, forall_const, not_false_eq_true, false_implies, not_true_eq_false, reduceCtorEq, tl_s, tl_n, rf_s, List.cons_append, List.nil_append, true_or, or_true, hm.c]
        refine b_eq (by omega) (by omega) (fun cc => absurd cc (by omega)) (fun cc => ?_)
        refine B_Model_bound_30 ?_
        simp only [wp_cons, wp_nil, List.getElem?_cons_zero, List.getElem?_cons_succ, List.set_cons_zero, List.set_cons_succ, s_aload_n0, ldA_r, ldA_n, s_iload_n1, ldI_s, s_iload, s_invokevirtual, rc_s, ob_s, List.drop_succ_cons, List.drop_zero, List.take_succ_cons, List.take_zero, List.reverse_cons, List.reverse_nil, List.nil_append, List.cons_append, List.length_cons, List.length_nil, d1, Int.reduceToNat, Nat.reduceAdd, Nat.reduceLeDiff, true_and, and_true, Nat.le_refl, true_implies, forall_const, not_false_eq_true, false_implies, not_true_eq_false, reduceCtorEq, tl_s, tl_n, rf_s, true_or, or_true, hm.c]
        refine Mdl_pAt_c (by omega) hm hr w hs (by omega) ?_
        refine B_Model_bound_37 ?_
        simp only [wp_cons, wp_nil, List.getElem?_cons_zero, List.getElem?_cons_succ, List.set_cons_zero, List.set_cons_succ, s_invokestatic, rc_s, ob_s, List.drop_succ_cons, List.drop_zero, List.take_succ_cons, List.take_zero, List.reverse_cons, List.reverse_nil, List.nil_append, List.cons_append, List.length_cons, List.length_nil, Nat.reduceEqDiff, reduceIte, p1_s, p2_s, l1_s, d1, Int.reduceToNat, Nat.reduceAdd, Nat.reduceLeDiff, true_and, and_true, Nat.le_refl, true_implies, forall_const, not_false_eq_true, false_implies, not_true_eq_false, reduceCtorEq, tl_s, tl_n, rf_s, true_or, or_true, hm.c]
        refine Mdl_x_c b1 ?_
        refine B_Model_bound_40 ?_
        simp only [wp_cons, wp_nil, List.getElem?_cons_zero, List.getElem?_cons_succ, List.set_cons_zero, List.set_cons_succ, s_goto, true_and, and_true, Nat.le_refl, true_implies, forall_const, not_false_eq_true, false_implies, not_true_eq_false, reduceCtorEq, tl_s, tl_n, rf_s, List.cons_append, List.nil_append, true_or, or_true]
        exact key _ (by omega) (by simp)
      | false =>
        rw [show bi false = 0 from rfl] at key ⊢
        refine B_Model_bound_23 ?_
        simp only [wp_cons, wp_nil, List.getElem?_cons_zero, List.getElem?_cons_succ, List.set_cons_zero, List.set_cons_succ, s_if_icmp_ge, p2_s, true_and, and_true, Nat.le_refl, true_implies, forall_const, not_false_eq_true, false_implies, not_true_eq_false, reduceCtorEq, tl_s, tl_n, rf_s, List.cons_append, List.nil_append, true_or, or_true, hm.c]
        refine b_le (by omega) (by omega) (fun cc => absurd cc (by omega)) (fun cc => ?_)
        refine B_Model_bound_26 ?_
        simp only [wp_cons, wp_nil, List.getElem?_cons_zero, List.getElem?_cons_succ, List.set_cons_zero, List.set_cons_succ, s_iload_n2, ldI_s, s_ifCond_eq, p1_s, true_and, and_true, Nat.le_refl, true_implies, forall_const, not_false_eq_true, false_implies, not_true_eq_false, reduceCtorEq, tl_s, tl_n, rf_s, List.cons_append, List.nil_append, true_or, or_true, hm.c]
        refine B_Model_bound_43 ?_
        simp only [wp_cons, wp_nil, List.getElem?_cons_zero, List.getElem?_cons_succ, List.set_cons_zero, List.set_cons_succ, s_aload_n0, ldA_r, ldA_n, s_iload_n1, ldI_s, s_iload, s_invokevirtual, rc_s, ob_s, List.drop_succ_cons, List.drop_zero, List.take_succ_cons, List.take_zero, List.reverse_cons, List.reverse_nil, List.nil_append, List.cons_append, List.length_cons, List.length_nil, d1, Int.reduceToNat, Nat.reduceAdd, Nat.reduceLeDiff, true_and, and_true, Nat.le_refl, true_implies, forall_const, not_false_eq_true, false_implies, not_true_eq_false, reduceCtorEq, tl_s, tl_n, rf_s, true_or, or_true, hm.c]
        refine Mdl_pAt_c (by omega) hm hr w hs (by omega) ?_
        refine B_Model_bound_50 ?_
        simp only [wp_cons, wp_nil, List.getElem?_cons_zero, List.getElem?_cons_succ, List.set_cons_zero, List.set_cons_succ, s_invokestatic, rc_s, ob_s, List.drop_succ_cons, List.drop_zero, List.take_succ_cons, List.take_zero, List.reverse_cons, List.reverse_nil, List.nil_append, List.cons_append, List.length_cons, List.length_nil, Nat.reduceEqDiff, reduceIte, p1_s, p2_s, l1_s, d1, Int.reduceToNat, Nat.reduceAdd, Nat.reduceLeDiff, true_and, and_true, Nat.le_refl, true_implies, forall_const, not_false_eq_true, false_implies, not_true_eq_false, reduceCtorEq, tl_s, tl_n, rf_s, true_or, or_true, hm.c]
        refine Mdl_y_c b1 ?_
        exact key _ (by omega) (by simp)
  refine Call.intro (by rfl) (Nat.le_of_ble_eq_true rfl) ?_
  refine G.eqL (L := [some (.ref _), some (.int _), some (.int _), some (.int _), none, none, none]) rfl ?_
  cases z with
  | true =>
    rw [show bi (!true) = 0 from rfl] at loop ⊢
    refine B_Model_bound_0 ?_
    simp only [wp_cons, wp_nil, List.getElem?_cons_zero, List.getElem?_cons_succ, List.set_cons_zero, List.set_cons_succ, s_iload_n3, ldI_s, s_ifCond_eq, p1_s, true_and, and_true, Nat.le_refl, true_implies, forall_const, not_false_eq_true, false_implies, not_true_eq_false, reduceCtorEq, tl_s, tl_n, rf_s, List.cons_append, List.nil_append, true_or, or_true]
    refine B_Model_bound_10 ?_
    simp only [wp_cons, wp_nil, List.getElem?_cons_zero, List.getElem?_cons_succ, List.set_cons_zero, List.set_cons_succ, s_iconst, true_and, and_true, Nat.le_refl, true_implies, forall_const, not_false_eq_true, false_implies, not_true_eq_false, reduceCtorEq, tl_s, tl_n, rf_s, List.cons_append, List.nil_append, true_or, or_true]
    refine B_Model_bound_11 ?_
    simp only [wp_cons, wp_nil, List.getElem?_cons_zero, List.getElem?_cons_succ, List.set_cons_zero, List.set_cons_succ, s_istore, p1_s, s1_0, s1_s, kx_i, kx_r, kx_n, kx_l, kx_0, s_iconst, true_and, and_true, Nat.le_refl, true_implies, forall_const, not_false_eq_true, false_implies, not_true_eq_false, reduceCtorEq, tl_s, tl_n, rf_s, List.cons_append, List.nil_append, true_or, or_true]
    exact loop (sg st.1 s).1.length 0 0 _ (by omega) (by simp)
  | false =>
    rw [show bi (!false) = 1 from rfl] at loop ⊢
    refine B_Model_bound_0 ?_
    simp only [wp_cons, wp_nil, List.getElem?_cons_zero, List.getElem?_cons_succ, List.set_cons_zero, List.set_cons_succ, s_iload_n3, ldI_s, s_ifCond_eq, p1_s, true_and, and_true, Nat.le_refl, true_implies, forall_const, not_false_eq_true, false_implies, not_true_eq_false, reduceCtorEq, tl_s, tl_n, rf_s, List.cons_append, List.nil_append, true_or, or_true]
    refine b_eq (by omega) (by omega) (fun cc => absurd cc (by omega)) (fun cc => ?_)
    refine B_Model_bound_4 ?_
    simp only [wp_cons, wp_nil, List.getElem?_cons_zero, List.getElem?_cons_succ, List.set_cons_zero, List.set_cons_succ, s_sipush, s_goto, true_and, and_true, Nat.le_refl, true_implies, forall_const, not_false_eq_true, false_implies, not_true_eq_false, reduceCtorEq, tl_s, tl_n, rf_s, List.cons_append, List.nil_append, true_or, or_true]
    refine B_Model_bound_11 ?_
    simp only [wp_cons, wp_nil, List.getElem?_cons_zero, List.getElem?_cons_succ, List.set_cons_zero, List.set_cons_succ, s_istore, p1_s, s1_0, s1_s, kx_i, kx_r, kx_n, kx_l, kx_0, s_iconst, true_and, and_true, Nat.le_refl, true_implies, forall_const, not_false_eq_true, false_implies, not_true_eq_false, reduceCtorEq, tl_s, tl_n, rf_s, List.cons_append, List.nil_append, true_or, or_true]
    exact loop (sg st.1 s).1.length 0 999 _ (by omega) (by simp)
theorem Mdl_ofS_c {d M s v : Nat} (d5 : 5 ≤ d) {st : Sta} {r : Nat → Int} {A : Nat → Nat → Int} {h : g_H} {Q : g_Po} (hm : mdl h M r A) (hr : stR (A 1) st) (w : wfL st.1) (hs : s < st.1.length) (hv : v ≤ 9) (hQ : Q (some (.int (I (figS (sg st.1 s) v)))) h) : Call Model_ofStroke d 0 0 [.ref M, .int (I (s : Int)), .int (I (v : Int))] h Q := by
  have d1 : 1 ≤ d := by omega
  obtain ⟨w1, w2, w3⟩ := w.2 s hs
  have w0 := w.1
  have ha := area_bd w3 (by omega) w2
  refine Call.intro (by rfl) (Nat.le_of_ble_eq_true rfl) ?_
  refine G.eqL (L := [some (.ref _), some (.int _), some (.int _)]) rfl ?_
  refine B_Model_ofStroke_0 ?_
  simp only [wp_cons, wp_nil, List.getElem?_cons_zero, List.getElem?_cons_succ, List.set_cons_zero, List.set_cons_succ, s_iload_n2, ldI_s, s_tableswitch, p1_s, true_and, and_true, Nat.le_refl, true_implies, forall_const, not_false_eq_true, false_implies, not_true_eq_false, reduceCtorEq, tl_s, tl_n, rf_s, List.cons_append, List.nil_append, true_or, or_true, hm.c]
  rw [I_toInt (by omega)]
  unfold figS at hQ
  by_cases e0 : v = 0
  · rw [if_pos e0] at hQ
    refine sw_in 0 39 rfl (by omega) (by omega) (G.eqp (pc := 40) rfl ?_)
    refine B_Model_ofStroke_40 ?_
    simp only [wp_cons, wp_nil, List.getElem?_cons_zero, List.getElem?_cons_succ, List.set_cons_zero, List.set_cons_succ, s_aload_n0, ldA_r, ldA_n, s_iload_n1, ldI_s, s_invokevirtual, rc_s, ob_s, List.drop_succ_cons, List.drop_zero, List.take_succ_cons, List.take_zero, List.reverse_cons, List.reverse_nil, List.nil_append, List.cons_append, List.length_cons, List.length_nil, d1, Int.reduceToNat, Nat.reduceAdd, Nat.reduceLeDiff, true_and, and_true, Nat.le_refl, true_implies, forall_const, not_false_eq_true, false_implies, not_true_eq_false, reduceCtorEq, tl_s, tl_n, rf_s, true_or, or_true, hm.c]
    refine Mdl_len_c (by omega) hm hr w hs ?_
    refine B_Model_ofStroke_45 ?_
    simp only [wp_cons, wp_nil, List.getElem?_cons_zero, List.getElem?_cons_succ, List.set_cons_zero, List.set_cons_succ, s_ireturn, p1_s, rI_i, rI_z, rI_c, z_01, z_11, rt_Model_ofStroke, true_and, and_true, Nat.le_refl, true_implies, forall_const, not_false_eq_true, false_implies, not_true_eq_false, reduceCtorEq, tl_s, tl_n, rf_s, List.cons_append, List.nil_append, true_or, or_true, hm.c]
    exact hQ
  rw [if_neg e0] at hQ
  by_cases e1 : v = 1
  · rw [if_pos e1] at hQ
    refine sw_in 1 45 rfl (by omega) (by omega) (G.eqp (pc := 46) rfl ?_)
    refine B_Model_ofStroke_46 ?_
    simp only [wp_cons, wp_nil, List.getElem?_cons_zero, List.getElem?_cons_succ, List.set_cons_zero, List.set_cons_succ, s_aload_n0, ldA_r, ldA_n, s_iload_n1, ldI_s, s_iconst, s_invokevirtual, rc_s, ob_s, List.drop_succ_cons, List.drop_zero, List.take_succ_cons, List.take_zero, List.reverse_cons, List.reverse_nil, List.nil_append, List.cons_append, List.length_cons, List.length_nil, d1, Int.reduceToNat, Nat.reduceAdd, Nat.reduceLeDiff, true_and, and_true, Nat.le_refl, true_implies, forall_const, not_false_eq_true, false_implies, not_true_eq_false, reduceCtorEq, tl_s, tl_n, rf_s, true_or, or_true, hm.c]
    refine Mdl_part_c (j := 33 + 32 * s) hm (by omega) (by omega) ?_
    refine B_Model_ofStroke_52 ?_
    simp only [wp_cons, wp_nil, List.getElem?_cons_zero, List.getElem?_cons_succ, List.set_cons_zero, List.set_cons_succ, s_ireturn, p1_s, rI_i, rI_z, rI_c, z_01, z_11, rt_Model_ofStroke, true_and, and_true, Nat.le_refl, true_implies, forall_const, not_false_eq_true, false_implies, not_true_eq_false, reduceCtorEq, tl_s, tl_n, rf_s, List.cons_append, List.nil_append, true_or, or_true, hm.c]
    rw [(hr.2.2.2 s hs).2.1]
    exact hQ
  rw [if_neg e1] at hQ
  by_cases e2 : v = 2
  · rw [if_pos e2] at hQ
    refine sw_in 2 52 rfl (by omega) (by omega) (G.eqp (pc := 53) rfl ?_)
    refine B_Model_ofStroke_53 ?_
    simp only [wp_cons, wp_nil, List.getElem?_cons_zero, List.getElem?_cons_succ, List.set_cons_zero, List.set_cons_succ, s_aload_n0, ldA_r, ldA_n, s_iload_n1, ldI_s, s_invokevirtual, rc_s, ob_s, List.drop_succ_cons, List.drop_zero, List.take_succ_cons, List.take_zero, List.reverse_cons, List.reverse_nil, List.nil_append, List.cons_append, List.length_cons, List.length_nil, d1, Int.reduceToNat, Nat.reduceAdd, Nat.reduceLeDiff, true_and, and_true, Nat.le_refl, true_implies, forall_const, not_false_eq_true, false_implies, not_true_eq_false, reduceCtorEq, tl_s, tl_n, rf_s, true_or, or_true, hm.c]
    refine Mdl_leng_c (by omega) hm hr w hs ?_
    refine B_Model_ofStroke_58 ?_
    simp only [wp_cons, wp_nil, List.getElem?_cons_zero, List.getElem?_cons_succ, List.set_cons_zero, List.set_cons_succ, s_ireturn, p1_s, rI_i, rI_z, rI_c, z_01, z_11, rt_Model_ofStroke, true_and, and_true, Nat.le_refl, true_implies, forall_const, not_false_eq_true, false_implies, not_true_eq_false, reduceCtorEq, tl_s, tl_n, rf_s, List.cons_append, List.nil_append, true_or, or_true, hm.c]
    exact hQ
  rw [if_neg e2] at hQ
  by_cases e3 : v = 3
  · rw [if_pos e3] at hQ
    refine sw_in 3 58 rfl (by omega) (by omega) (G.eqp (pc := 59) rfl ?_)
    refine B_Model_ofStroke_59 ?_
    simp only [wp_cons, wp_nil, List.getElem?_cons_zero, List.getElem?_cons_succ, List.set_cons_zero, List.set_cons_succ, s_aload_n0, ldA_r, ldA_n, s_iload_n1, ldI_s, s_invokevirtual, rc_s, ob_s, List.drop_succ_cons, List.drop_zero, List.take_succ_cons, List.take_zero, List.reverse_cons, List.reverse_nil, List.nil_append, List.cons_append, List.length_cons, List.length_nil, d1, Int.reduceToNat, Nat.reduceAdd, Nat.reduceLeDiff, true_and, and_true, Nat.le_refl, true_implies, forall_const, not_false_eq_true, false_implies, not_true_eq_false, reduceCtorEq, tl_s, tl_n, rf_s, true_or, or_true, hm.c]
    refine Mdl_area_c (by omega) hm hr w hs ?_
    refine B_Model_ofStroke_64 ?_
    simp only [wp_cons, wp_nil, List.getElem?_cons_zero, List.getElem?_cons_succ, List.set_cons_zero, List.set_cons_succ, s_invokestatic, rc_s, ob_s, List.drop_succ_cons, List.drop_zero, List.take_succ_cons, List.take_zero, List.reverse_cons, List.reverse_nil, List.nil_append, List.cons_append, List.length_cons, List.length_nil, Nat.reduceEqDiff, reduceIte, p1_s, p2_s, l1_s, d1, Int.reduceToNat, Nat.reduceAdd, Nat.reduceLeDiff, true_and, and_true, Nat.le_refl, true_implies, forall_const, not_false_eq_true, false_implies, not_true_eq_false, reduceCtorEq, tl_s, tl_n, rf_s, true_or, or_true, hm.c]
    refine Mdl_abs_c (by omega) ?_
    refine B_Model_ofStroke_67 ?_
    simp only [wp_cons, wp_nil, List.getElem?_cons_zero, List.getElem?_cons_succ, List.set_cons_zero, List.set_cons_succ, s_ireturn, p1_s, rI_i, rI_z, rI_c, z_01, z_11, rt_Model_ofStroke, true_and, and_true, Nat.le_refl, true_implies, forall_const, not_false_eq_true, false_implies, not_true_eq_false, reduceCtorEq, tl_s, tl_n, rf_s, List.cons_append, List.nil_append, true_or, or_true, hm.c]
    exact hQ
  rw [if_neg e3] at hQ
  by_cases e4 : v = 4
  · rw [if_pos e4] at hQ
    refine sw_in 4 67 rfl (by omega) (by omega) (G.eqp (pc := 68) rfl ?_)
    refine B_Model_ofStroke_68 ?_
    simp only [wp_cons, wp_nil, List.getElem?_cons_zero, List.getElem?_cons_succ, List.set_cons_zero, List.set_cons_succ, s_aload_n0, ldA_r, ldA_n, s_iload_n1, ldI_s, s_invokevirtual, rc_s, ob_s, List.drop_succ_cons, List.drop_zero, List.take_succ_cons, List.take_zero, List.reverse_cons, List.reverse_nil, List.nil_append, List.cons_append, List.length_cons, List.length_nil, d1, Int.reduceToNat, Nat.reduceAdd, Nat.reduceLeDiff, true_and, and_true, Nat.le_refl, true_implies, forall_const, not_false_eq_true, false_implies, not_true_eq_false, reduceCtorEq, tl_s, tl_n, rf_s, true_or, or_true, hm.c]
    refine Mdl_area_c (by omega) hm hr w hs ?_
    refine B_Model_ofStroke_73 ?_
    simp only [wp_cons, wp_nil, List.getElem?_cons_zero, List.getElem?_cons_succ, List.set_cons_zero, List.set_cons_succ, s_invokestatic, rc_s, ob_s, List.drop_succ_cons, List.drop_zero, List.take_succ_cons, List.take_zero, List.reverse_cons, List.reverse_nil, List.nil_append, List.cons_append, List.length_cons, List.length_nil, Nat.reduceEqDiff, reduceIte, p1_s, p2_s, l1_s, d1, Int.reduceToNat, Nat.reduceAdd, Nat.reduceLeDiff, true_and, and_true, Nat.le_refl, true_implies, forall_const, not_false_eq_true, false_implies, not_true_eq_false, reduceCtorEq, tl_s, tl_n, rf_s, true_or, or_true, hm.c]
    refine Mdl_sign_c (by omega) ?_
    refine B_Model_ofStroke_76 ?_
    simp only [wp_cons, wp_nil, List.getElem?_cons_zero, List.getElem?_cons_succ, List.set_cons_zero, List.set_cons_succ, s_iconst, s_iadd, p2_s, I_add, s_ireturn, p1_s, rI_i, rI_z, rI_c, z_01, z_11, rt_Model_ofStroke, true_and, and_true, Nat.le_refl, true_implies, forall_const, not_false_eq_true, false_implies, not_true_eq_false, reduceCtorEq, tl_s, tl_n, rf_s, List.cons_append, List.nil_append, true_or, or_true, hm.c]
    rw [show sgI (areaS (sg st.1 s)) = if areaS (sg st.1 s) < 0 then -1 else if areaS (sg st.1 s) = 0 then 0 else 1 by unfold sgI; split <;> (try split) <;> (try split) <;> omega]
    exact hQ
  rw [if_neg e4] at hQ
  by_cases e5 : v = 5
  · rw [if_pos e5] at hQ
    refine sw_in 5 78 rfl (by omega) (by omega) (G.eqp (pc := 79) rfl ?_)
    refine B_Model_ofStroke_79 ?_
    simp only [wp_cons, wp_nil, List.getElem?_cons_zero, List.getElem?_cons_succ, List.set_cons_zero, List.set_cons_succ, s_aload_n0, ldA_r, ldA_n, s_iload_n1, ldI_s, s_invokevirtual, rc_s, ob_s, List.drop_succ_cons, List.drop_zero, List.take_succ_cons, List.take_zero, List.reverse_cons, List.reverse_nil, List.nil_append, List.cons_append, List.length_cons, List.length_nil, d1, Int.reduceToNat, Nat.reduceAdd, Nat.reduceLeDiff, true_and, and_true, Nat.le_refl, true_implies, forall_const, not_false_eq_true, false_implies, not_true_eq_false, reduceCtorEq, tl_s, tl_n, rf_s, true_or, or_true, hm.c]
    refine Mdl_cse_c (by omega) hm hr w hs ?_
    refine B_Model_ofStroke_84 ?_
    simp only [wp_cons, wp_nil, List.getElem?_cons_zero, List.getElem?_cons_succ, List.set_cons_zero, List.set_cons_succ, s_ireturn, p1_s, rI_i, rI_z, rI_c, z_01, z_11, rt_Model_ofStroke, true_and, and_true, Nat.le_refl, true_implies, forall_const, not_false_eq_true, false_implies, not_true_eq_false, reduceCtorEq, tl_s, tl_n, rf_s, List.cons_append, List.nil_append, true_or, or_true, hm.c]
    exact hQ
  rw [if_neg e5] at hQ
  refine sw_out (by omega) (G.eqp (pc := 85) rfl ?_)
  have i2 : I (v : Int) - I (v : Int) / I 2 * I 2 = I ((v % 2 : Nat) : Int) := I_remN (k := v) (m := 2) (by omega) (by omega)
  rcases (by omega : v = 6 ∨ v = 7 ∨ v = 8 ∨ v = 9) with e | e | e | e
  · subst e
    refine B_Model_ofStroke_85 ?_
    simp only [wp_cons, wp_nil, List.getElem?_cons_zero, List.getElem?_cons_succ, List.set_cons_zero, List.set_cons_succ, s_aload_n0, ldA_r, ldA_n, s_iload_n1, ldI_s, s_iload_n2, s_bipush, s_if_icmp_ge, p2_s, true_and, and_true, Nat.le_refl, true_implies, forall_const, not_false_eq_true, false_implies, not_true_eq_false, reduceCtorEq, tl_s, tl_n, rf_s, List.cons_append, List.nil_append, true_or, or_true, hm.c, i2]
    refine b_le (by omega) (by omega) (fun cc => absurd cc (by omega)) (fun cc => ?_)
    refine B_Model_ofStroke_93 ?_
    simp only [wp_cons, wp_nil, List.getElem?_cons_zero, List.getElem?_cons_succ, List.set_cons_zero, List.set_cons_succ, s_iconst, s_goto, true_and, and_true, Nat.le_refl, true_implies, forall_const, not_false_eq_true, false_implies, not_true_eq_false, reduceCtorEq, tl_s, tl_n, rf_s, List.cons_append, List.nil_append, true_or, or_true, hm.c, i2]
    refine B_Model_ofStroke_98 ?_
    simp only [wp_cons, wp_nil, List.getElem?_cons_zero, List.getElem?_cons_succ, List.set_cons_zero, List.set_cons_succ, s_iload_n2, ldI_s, s_iconst, s_irem, p2_s, ne_k1000, ne_k2, s_ifCond_ne, p1_s, true_and, and_true, Nat.le_refl, true_implies, forall_const, not_false_eq_true, false_implies, not_true_eq_false, reduceCtorEq, tl_s, tl_n, rf_s, List.cons_append, List.nil_append, true_or, or_true, hm.c, i2]
    refine b_ne (by omega) (by omega) (fun cc => absurd cc (by omega)) (fun cc => ?_)
    refine B_Model_ofStroke_104 ?_
    simp only [wp_cons, wp_nil, List.getElem?_cons_zero, List.getElem?_cons_succ, List.set_cons_zero, List.set_cons_succ, s_iconst, s_goto, true_and, and_true, Nat.le_refl, true_implies, forall_const, not_false_eq_true, false_implies, not_true_eq_false, reduceCtorEq, tl_s, tl_n, rf_s, List.cons_append, List.nil_append, true_or, or_true, hm.c, i2]
    refine B_Model_ofStroke_109 ?_
    simp only [wp_cons, wp_nil, List.getElem?_cons_zero, List.getElem?_cons_succ, List.set_cons_zero, List.set_cons_succ, s_invokevirtual, rc_s, ob_s, List.drop_succ_cons, List.drop_zero, List.take_succ_cons, List.take_zero, List.reverse_cons, List.reverse_nil, List.nil_append, List.cons_append, List.length_cons, List.length_nil, d1, Int.reduceToNat, Nat.reduceAdd, Nat.reduceLeDiff, true_and, and_true, Nat.le_refl, true_implies, forall_const, not_false_eq_true, false_implies, not_true_eq_false, reduceCtorEq, tl_s, tl_n, rf_s, true_or, or_true, hm.c, i2]
    exact Mdl_bnd_c (x := true) (z := false) (by omega) hm hr w hs (by
      refine B_Model_ofStroke_112 ?_
      simp only [wp_cons, wp_nil, List.getElem?_cons_zero, List.getElem?_cons_succ, List.set_cons_zero, List.set_cons_succ, s_ireturn, p1_s, rI_i, rI_z, rI_c, z_01, z_11, rt_Model_ofStroke, true_and, and_true, Nat.le_refl, true_implies, forall_const, not_false_eq_true, false_implies, not_true_eq_false, reduceCtorEq, tl_s, tl_n, rf_s, List.cons_append, List.nil_append, true_or, or_true]
      exact hQ)
  · subst e
    refine B_Model_ofStroke_85 ?_
    simp only [wp_cons, wp_nil, List.getElem?_cons_zero, List.getElem?_cons_succ, List.set_cons_zero, List.set_cons_succ, s_aload_n0, ldA_r, ldA_n, s_iload_n1, ldI_s, s_iload_n2, s_bipush, s_if_icmp_ge, p2_s, true_and, and_true, Nat.le_refl, true_implies, forall_const, not_false_eq_true, false_implies, not_true_eq_false, reduceCtorEq, tl_s, tl_n, rf_s, List.cons_append, List.nil_append, true_or, or_true, hm.c, i2]
    refine b_le (by omega) (by omega) (fun cc => absurd cc (by omega)) (fun cc => ?_)
    refine B_Model_ofStroke_93 ?_
    simp only [wp_cons, wp_nil, List.getElem?_cons_zero, List.getElem?_cons_succ, List.set_cons_zero, List.set_cons_succ, s_iconst, s_goto, true_and, and_true, Nat.le_refl, true_implies, forall_const, not_false_eq_true, false_implies, not_true_eq_false, reduceCtorEq, tl_s, tl_n, rf_s, List.cons_append, List.nil_append, true_or, or_true, hm.c, i2]
    refine B_Model_ofStroke_98 ?_
    simp only [wp_cons, wp_nil, List.getElem?_cons_zero, List.getElem?_cons_succ, List.set_cons_zero, List.set_cons_succ, s_iload_n2, ldI_s, s_iconst, s_irem, p2_s, ne_k1000, ne_k2, s_ifCond_ne, p1_s, true_and, and_true, Nat.le_refl, true_implies, forall_const, not_false_eq_true, false_implies, not_true_eq_false, reduceCtorEq, tl_s, tl_n, rf_s, List.cons_append, List.nil_append, true_or, or_true, hm.c, i2]
    refine b_ne (by omega) (by omega) (fun cc => ?_) (fun cc => absurd cc (by omega))
    refine B_Model_ofStroke_108 ?_
    simp only [wp_cons, wp_nil, List.getElem?_cons_zero, List.getElem?_cons_succ, List.set_cons_zero, List.set_cons_succ, s_iconst, true_and, and_true, Nat.le_refl, true_implies, forall_const, not_false_eq_true, false_implies, not_true_eq_false, reduceCtorEq, tl_s, tl_n, rf_s, List.cons_append, List.nil_append, true_or, or_true, hm.c, i2]
    refine B_Model_ofStroke_109 ?_
    simp only [wp_cons, wp_nil, List.getElem?_cons_zero, List.getElem?_cons_succ, List.set_cons_zero, List.set_cons_succ, s_invokevirtual, rc_s, ob_s, List.drop_succ_cons, List.drop_zero, List.take_succ_cons, List.take_zero, List.reverse_cons, List.reverse_nil, List.nil_append, List.cons_append, List.length_cons, List.length_nil, d1, Int.reduceToNat, Nat.reduceAdd, Nat.reduceLeDiff, true_and, and_true, Nat.le_refl, true_implies, forall_const, not_false_eq_true, false_implies, not_true_eq_false, reduceCtorEq, tl_s, tl_n, rf_s, true_or, or_true, hm.c, i2]
    exact Mdl_bnd_c (x := true) (z := true) (by omega) hm hr w hs (by
      refine B_Model_ofStroke_112 ?_
      simp only [wp_cons, wp_nil, List.getElem?_cons_zero, List.getElem?_cons_succ, List.set_cons_zero, List.set_cons_succ, s_ireturn, p1_s, rI_i, rI_z, rI_c, z_01, z_11, rt_Model_ofStroke, true_and, and_true, Nat.le_refl, true_implies, forall_const, not_false_eq_true, false_implies, not_true_eq_false, reduceCtorEq, tl_s, tl_n, rf_s, List.cons_append, List.nil_append, true_or, or_true]
      exact hQ)
  · subst e
    refine B_Model_ofStroke_85 ?_
    simp only [wp_cons, wp_nil, List.getElem?_cons_zero, List.getElem?_cons_succ, List.set_cons_zero, List.set_cons_succ, s_aload_n0, ldA_r, ldA_n, s_iload_n1, ldI_s, s_iload_n2, s_bipush, s_if_icmp_ge, p2_s, true_and, and_true, Nat.le_refl, true_implies, forall_const, not_false_eq_true, false_implies, not_true_eq_false, reduceCtorEq, tl_s, tl_n, rf_s, List.cons_append, List.nil_append, true_or, or_true, hm.c, i2]
    refine b_le (by omega) (by omega) (fun cc => ?_) (fun cc => absurd cc (by omega))
    refine B_Model_ofStroke_97 ?_
    simp only [wp_cons, wp_nil, List.getElem?_cons_zero, List.getElem?_cons_succ, List.set_cons_zero, List.set_cons_succ, s_iconst, true_and, and_true, Nat.le_refl, true_implies, forall_const, not_false_eq_true, false_implies, not_true_eq_false, reduceCtorEq, tl_s, tl_n, rf_s, List.cons_append, List.nil_append, true_or, or_true, hm.c, i2]
    refine B_Model_ofStroke_98 ?_
    simp only [wp_cons, wp_nil, List.getElem?_cons_zero, List.getElem?_cons_succ, List.set_cons_zero, List.set_cons_succ, s_iload_n2, ldI_s, s_iconst, s_irem, p2_s, ne_k1000, ne_k2, s_ifCond_ne, p1_s, true_and, and_true, Nat.le_refl, true_implies, forall_const, not_false_eq_true, false_implies, not_true_eq_false, reduceCtorEq, tl_s, tl_n, rf_s, List.cons_append, List.nil_append, true_or, or_true, hm.c, i2]
    refine b_ne (by omega) (by omega) (fun cc => absurd cc (by omega)) (fun cc => ?_)
    refine B_Model_ofStroke_104 ?_
    simp only [wp_cons, wp_nil, List.getElem?_cons_zero, List.getElem?_cons_succ, List.set_cons_zero, List.set_cons_succ, s_iconst, s_goto, true_and, and_true, Nat.le_refl, true_implies, forall_const, not_false_eq_true, false_implies, not_true_eq_false, reduceCtorEq, tl_s, tl_n, rf_s, List.cons_append, List.nil_append, true_or, or_true, hm.c, i2]
    refine B_Model_ofStroke_109 ?_
    simp only [wp_cons, wp_nil, List.getElem?_cons_zero, List.getElem?_cons_succ, List.set_cons_zero, List.set_cons_succ, s_invokevirtual, rc_s, ob_s, List.drop_succ_cons, List.drop_zero, List.take_succ_cons, List.take_zero, List.reverse_cons, List.reverse_nil, List.nil_append, List.cons_append, List.length_cons, List.length_nil, d1, Int.reduceToNat, Nat.reduceAdd, Nat.reduceLeDiff, true_and, and_true, Nat.le_refl, true_implies, forall_const, not_false_eq_true, false_implies, not_true_eq_false, reduceCtorEq, tl_s, tl_n, rf_s, true_or, or_true, hm.c, i2]
    exact Mdl_bnd_c (x := false) (z := false) (by omega) hm hr w hs (by
      refine B_Model_ofStroke_112 ?_
      simp only [wp_cons, wp_nil, List.getElem?_cons_zero, List.getElem?_cons_succ, List.set_cons_zero, List.set_cons_succ, s_ireturn, p1_s, rI_i, rI_z, rI_c, z_01, z_11, rt_Model_ofStroke, true_and, and_true, Nat.le_refl, true_implies, forall_const, not_false_eq_true, false_implies, not_true_eq_false, reduceCtorEq, tl_s, tl_n, rf_s, List.cons_append, List.nil_append, true_or, or_true]
      exact hQ)
  · subst e
    refine B_Model_ofStroke_85 ?_
    simp only [wp_cons, wp_nil, List.getElem?_cons_zero, List.getElem?_cons_succ, List.set_cons_zero, List.set_cons_succ, s_aload_n0, ldA_r, ldA_n, s_iload_n1, ldI_s, s_iload_n2, s_bipush, s_if_icmp_ge, p2_s, true_and, and_true, Nat.le_refl, true_implies, forall_const, not_false_eq_true, false_implies, not_true_eq_false, reduceCtorEq, tl_s, tl_n, rf_s, List.cons_append, List.nil_append, true_or, or_true, hm.c, i2]
    refine b_le (by omega) (by omega) (fun cc => ?_) (fun cc => absurd cc (by omega))
    refine B_Model_ofStroke_97 ?_
    simp only [wp_cons, wp_nil, List.getElem?_cons_zero, List.getElem?_cons_succ, List.set_cons_zero, List.set_cons_succ, s_iconst, true_and, and_true, Nat.le_refl, true_implies, forall_const, not_false_eq_true, false_implies, not_true_eq_false, reduceCtorEq, tl_s, tl_n, rf_s, List.cons_append, List.nil_append, true_or, or_true, hm.c, i2]
    refine B_Model_ofStroke_98 ?_
    simp only [wp_cons, wp_nil, List.getElem?_cons_zero, List.getElem?_cons_succ, List.set_cons_zero, List.set_cons_succ, s_iload_n2, ldI_s, s_iconst, s_irem, p2_s, ne_k1000, ne_k2, s_ifCond_ne, p1_s, true_and, and_true, Nat.le_refl, true_implies, forall_const, not_false_eq_true, false_implies, not_true_eq_false, reduceCtorEq, tl_s, tl_n, rf_s, List.cons_append, List.nil_append, true_or, or_true, hm.c, i2]
    refine b_ne (by omega) (by omega) (fun cc => ?_) (fun cc => absurd cc (by omega))
    refine B_Model_ofStroke_108 ?_
    simp only [wp_cons, wp_nil, List.getElem?_cons_zero, List.getElem?_cons_succ, List.set_cons_zero, List.set_cons_succ, s_iconst, true_and, and_true, Nat.le_refl, true_implies, forall_const, not_false_eq_true, false_implies, not_true_eq_false, reduceCtorEq, tl_s, tl_n, rf_s, List.cons_append, List.nil_append, true_or, or_true, hm.c, i2]
    refine B_Model_ofStroke_109 ?_
    simp only [wp_cons, wp_nil, List.getElem?_cons_zero, List.getElem?_cons_succ, List.set_cons_zero, List.set_cons_succ, s_invokevirtual, rc_s, ob_s, List.drop_succ_cons, List.drop_zero, List.take_succ_cons, List.take_zero, List.reverse_cons, List.reverse_nil, List.nil_append, List.cons_append, List.length_cons, List.length_nil, d1, Int.reduceToNat, Nat.reduceAdd, Nat.reduceLeDiff, true_and, and_true, Nat.le_refl, true_implies, forall_const, not_false_eq_true, false_implies, not_true_eq_false, reduceCtorEq, tl_s, tl_n, rf_s, true_or, or_true, hm.c, i2]
    exact Mdl_bnd_c (x := false) (z := true) (by omega) hm hr w hs (by
      refine B_Model_ofStroke_112 ?_
      simp only [wp_cons, wp_nil, List.getElem?_cons_zero, List.getElem?_cons_succ, List.set_cons_zero, List.set_cons_succ, s_ireturn, p1_s, rI_i, rI_z, rI_c, z_01, z_11, rt_Model_ofStroke, true_and, and_true, Nat.le_refl, true_implies, forall_const, not_false_eq_true, false_implies, not_true_eq_false, reduceCtorEq, tl_s, tl_n, rf_s, List.cons_append, List.nil_append, true_or, or_true]
      exact hQ)
theorem Mdl_ahead_c {d : Nat} (d3 : 3 ≤ d) {p q x y : Int} {h : g_H} {Q : g_Po} (p1 : pt p) (p2 : pt q) (hx : 0 ≤ x ∧ x ≤ 999) (hy : 0 ≤ y ∧ y ≤ 999) (hQ : Q (some (.int (I (bi (ray p q x y))))) h) : Call Model_isAhead d 0 0 [.int (I p), .int (I q), .int (I x), .int (I y)] h Q := by
  have d1 : 1 ≤ d := by omega
  have main : ∀ (lo hi : Int), pt lo → pt hi → (lo % 1000 ≤ y → y < hi % 1000 → ray p q x y = decide (0 < crs lo hi (1000 * x + y))) → (¬ (lo % 1000 ≤ y ∧ y < hi % 1000) → ray p q x y = false) → G Model_isAhead d 0 0 0 0 34 [some (.int (I p)), some (.int (I q)), some (.int (I x)), some (.int (I y)), some (.int (I lo)), none] [.int (I hi)] h Q := by
    intro lo hi l1 l2 hA hB
    refine B_Model_isAhead_34 ?_
    simp only [wp_cons, wp_nil, List.getElem?_cons_zero, List.getElem?_cons_succ, List.set_cons_zero, List.set_cons_succ, s_istore, p1_s, s1_0, s1_s, kx_i, kx_r, kx_n, kx_l, kx_0, s_iload, ldI_s, s_invokestatic, rc_s, ob_s, List.drop_succ_cons, List.drop_zero, List.take_succ_cons, List.take_zero, List.reverse_cons, List.reverse_nil, List.nil_append, List.cons_append, List.length_cons, List.length_nil, Nat.reduceEqDiff, reduceIte, p2_s, l1_s, d1, Int.reduceToNat, Nat.reduceAdd, Nat.reduceLeDiff, true_and, and_true, Nat.le_refl, true_implies, forall_const, not_false_eq_true, false_implies, not_true_eq_false, reduceCtorEq, tl_s, tl_n, rf_s, true_or, or_true]
    refine Mdl_y_c l1 ?_
    by_cases c1 : lo % 1000 ≤ y
    · refine B_Model_isAhead_41 ?_
      simp only [wp_cons, wp_nil, List.getElem?_cons_zero, List.getElem?_cons_succ, List.set_cons_zero, List.set_cons_succ, s_iload_n3, ldI_s, s_if_icmp_gt, p2_s, true_and, and_true, Nat.le_refl, true_implies, forall_const, not_false_eq_true, false_implies, not_true_eq_false, reduceCtorEq, tl_s, tl_n, rf_s, List.cons_append, List.nil_append, true_or, or_true]
      refine b_lt (by omega) (by omega) (fun cc => absurd cc (by omega)) (fun cc => ?_)
      refine B_Model_isAhead_45 ?_
      simp only [wp_cons, wp_nil, List.getElem?_cons_zero, List.getElem?_cons_succ, List.set_cons_zero, List.set_cons_succ, s_iload, ldI_s, s_invokestatic, rc_s, ob_s, List.drop_succ_cons, List.drop_zero, List.take_succ_cons, List.take_zero, List.reverse_cons, List.reverse_nil, List.nil_append, List.cons_append, List.length_cons, List.length_nil, Nat.reduceEqDiff, reduceIte, p1_s, p2_s, l1_s, d1, Int.reduceToNat, Nat.reduceAdd, Nat.reduceLeDiff, true_and, and_true, Nat.le_refl, true_implies, forall_const, not_false_eq_true, false_implies, not_true_eq_false, reduceCtorEq, tl_s, tl_n, rf_s, true_or, or_true]
      refine Mdl_y_c l2 ?_
      by_cases c2 : y < hi % 1000
      · rw [hA c1 c2] at hQ
        have b3 := crs_bd l1 l2 (show pt (1000 * x + y) by omega)
        refine B_Model_isAhead_50 ?_
        simp only [wp_cons, wp_nil, List.getElem?_cons_zero, List.getElem?_cons_succ, List.set_cons_zero, List.set_cons_succ, s_iload_n3, ldI_s, s_if_icmp_le, p2_s, true_and, and_true, Nat.le_refl, true_implies, forall_const, not_false_eq_true, false_implies, not_true_eq_false, reduceCtorEq, tl_s, tl_n, rf_s, List.cons_append, List.nil_append, true_or, or_true]
        refine b_le (by omega) (by omega) (fun cc => absurd cc (by omega)) (fun cc => ?_)
        refine B_Model_isAhead_54 ?_
        simp only [wp_cons, wp_nil, List.getElem?_cons_zero, List.getElem?_cons_succ, List.set_cons_zero, List.set_cons_succ, s_iload, ldI_s, s_iload_n2, s_iload_n3, s_invokestatic, rc_s, ob_s, List.drop_succ_cons, List.drop_zero, List.take_succ_cons, List.take_zero, List.reverse_cons, List.reverse_nil, List.nil_append, List.cons_append, List.length_cons, List.length_nil, Nat.reduceEqDiff, reduceIte, p1_s, p2_s, l1_s, d1, Int.reduceToNat, Nat.reduceAdd, Nat.reduceLeDiff, true_and, and_true, Nat.le_refl, true_implies, forall_const, not_false_eq_true, false_implies, not_true_eq_false, reduceCtorEq, tl_s, tl_n, rf_s, true_or, or_true]
        refine Mdl_pt_c ?_
        refine B_Model_isAhead_63 ?_
        simp only [wp_cons, wp_nil, List.getElem?_cons_zero, List.getElem?_cons_succ, List.set_cons_zero, List.set_cons_succ, s_invokestatic, rc_s, ob_s, List.drop_succ_cons, List.drop_zero, List.take_succ_cons, List.take_zero, List.reverse_cons, List.reverse_nil, List.nil_append, List.cons_append, List.length_cons, List.length_nil, Nat.reduceEqDiff, reduceIte, p1_s, p2_s, l1_s, d1, Int.reduceToNat, Nat.reduceAdd, Nat.reduceLeDiff, true_and, and_true, Nat.le_refl, true_implies, forall_const, not_false_eq_true, false_implies, not_true_eq_false, reduceCtorEq, tl_s, tl_n, rf_s, true_or, or_true]
        refine Mdl_side_c (by omega) l1 l2 (by omega) ?_
        by_cases c3 : 0 < crs lo hi (1000 * x + y)
        · rw [show bi (decide (0 < crs lo hi (1000 * x + y))) = 1 by simp [bi, c3]] at hQ
          refine B_Model_isAhead_66 ?_
          simp only [wp_cons, wp_nil, List.getElem?_cons_zero, List.getElem?_cons_succ, List.set_cons_zero, List.set_cons_succ, s_ifCond_le, p1_s, true_and, and_true, Nat.le_refl, true_implies, forall_const, not_false_eq_true, false_implies, not_true_eq_false, reduceCtorEq, tl_s, tl_n, rf_s, List.cons_append, List.nil_append, true_or, or_true]
          refine b_le (by omega) (by omega) (fun cc => absurd cc (by omega)) (fun cc => ?_)
          refine B_Model_isAhead_69 ?_
          simp only [wp_cons, wp_nil, List.getElem?_cons_zero, List.getElem?_cons_succ, List.set_cons_zero, List.set_cons_succ, s_iconst, s_goto, true_and, and_true, Nat.le_refl, true_implies, forall_const, not_false_eq_true, false_implies, not_true_eq_false, reduceCtorEq, tl_s, tl_n, rf_s, List.cons_append, List.nil_append, true_or, or_true]
          refine B_Model_isAhead_74 ?_
          simp only [wp_cons, wp_nil, List.getElem?_cons_zero, List.getElem?_cons_succ, List.set_cons_zero, List.set_cons_succ, s_ireturn, p1_s, rI_i, rI_z, rI_c, z_01, z_11, rt_Model_isAhead, true_and, and_true, Nat.le_refl, true_implies, forall_const, not_false_eq_true, false_implies, not_true_eq_false, reduceCtorEq, tl_s, tl_n, rf_s, List.cons_append, List.nil_append, true_or, or_true]
          exact hQ
        · rw [show bi (decide (0 < crs lo hi (1000 * x + y))) = 0 by simp [bi]; omega] at hQ
          refine B_Model_isAhead_66 ?_
          simp only [wp_cons, wp_nil, List.getElem?_cons_zero, List.getElem?_cons_succ, List.set_cons_zero, List.set_cons_succ, s_ifCond_le, p1_s, true_and, and_true, Nat.le_refl, true_implies, forall_const, not_false_eq_true, false_implies, not_true_eq_false, reduceCtorEq, tl_s, tl_n, rf_s, List.cons_append, List.nil_append, true_or, or_true]
          refine b_le (by omega) (by omega) (fun cc => ?_) (fun cc => absurd cc (by omega))
          refine B_Model_isAhead_73 ?_
          simp only [wp_cons, wp_nil, List.getElem?_cons_zero, List.getElem?_cons_succ, List.set_cons_zero, List.set_cons_succ, s_iconst, true_and, and_true, Nat.le_refl, true_implies, forall_const, not_false_eq_true, false_implies, not_true_eq_false, reduceCtorEq, tl_s, tl_n, rf_s, List.cons_append, List.nil_append, true_or, or_true]
          refine B_Model_isAhead_74 ?_
          simp only [wp_cons, wp_nil, List.getElem?_cons_zero, List.getElem?_cons_succ, List.set_cons_zero, List.set_cons_succ, s_ireturn, p1_s, rI_i, rI_z, rI_c, z_01, z_11, rt_Model_isAhead, true_and, and_true, Nat.le_refl, true_implies, forall_const, not_false_eq_true, false_implies, not_true_eq_false, reduceCtorEq, tl_s, tl_n, rf_s, List.cons_append, List.nil_append, true_or, or_true]
          exact hQ
      · rw [hB (fun q => c2 q.2)] at hQ
        refine B_Model_isAhead_50 ?_
        simp only [wp_cons, wp_nil, List.getElem?_cons_zero, List.getElem?_cons_succ, List.set_cons_zero, List.set_cons_succ, s_iload_n3, ldI_s, s_if_icmp_le, p2_s, true_and, and_true, Nat.le_refl, true_implies, forall_const, not_false_eq_true, false_implies, not_true_eq_false, reduceCtorEq, tl_s, tl_n, rf_s, List.cons_append, List.nil_append, true_or, or_true]
        refine b_le (by omega) (by omega) (fun cc => ?_) (fun cc => absurd cc (by omega))
        refine B_Model_isAhead_73 ?_
        simp only [wp_cons, wp_nil, List.getElem?_cons_zero, List.getElem?_cons_succ, List.set_cons_zero, List.set_cons_succ, s_iconst, true_and, and_true, Nat.le_refl, true_implies, forall_const, not_false_eq_true, false_implies, not_true_eq_false, reduceCtorEq, tl_s, tl_n, rf_s, List.cons_append, List.nil_append, true_or, or_true]
        refine B_Model_isAhead_74 ?_
        simp only [wp_cons, wp_nil, List.getElem?_cons_zero, List.getElem?_cons_succ, List.set_cons_zero, List.set_cons_succ, s_ireturn, p1_s, rI_i, rI_z, rI_c, z_01, z_11, rt_Model_isAhead, true_and, and_true, Nat.le_refl, true_implies, forall_const, not_false_eq_true, false_implies, not_true_eq_false, reduceCtorEq, tl_s, tl_n, rf_s, List.cons_append, List.nil_append, true_or, or_true]
        exact hQ
    · rw [hB (fun q => c1 q.1)] at hQ
      refine B_Model_isAhead_41 ?_
      simp only [wp_cons, wp_nil, List.getElem?_cons_zero, List.getElem?_cons_succ, List.set_cons_zero, List.set_cons_succ, s_iload_n3, ldI_s, s_if_icmp_gt, p2_s, true_and, and_true, Nat.le_refl, true_implies, forall_const, not_false_eq_true, false_implies, not_true_eq_false, reduceCtorEq, tl_s, tl_n, rf_s, List.cons_append, List.nil_append, true_or, or_true]
      refine b_lt (by omega) (by omega) (fun cc => ?_) (fun cc => absurd cc (by omega))
      refine B_Model_isAhead_73 ?_
      simp only [wp_cons, wp_nil, List.getElem?_cons_zero, List.getElem?_cons_succ, List.set_cons_zero, List.set_cons_succ, s_iconst, true_and, and_true, Nat.le_refl, true_implies, forall_const, not_false_eq_true, false_implies, not_true_eq_false, reduceCtorEq, tl_s, tl_n, rf_s, List.cons_append, List.nil_append, true_or, or_true]
      refine B_Model_isAhead_74 ?_
      simp only [wp_cons, wp_nil, List.getElem?_cons_zero, List.getElem?_cons_succ, List.set_cons_zero, List.set_cons_succ, s_ireturn, p1_s, rI_i, rI_z, rI_c, z_01, z_11, rt_Model_isAhead, true_and, and_true, Nat.le_refl, true_implies, forall_const, not_false_eq_true, false_implies, not_true_eq_false, reduceCtorEq, tl_s, tl_n, rf_s, List.cons_append, List.nil_append, true_or, or_true]
      exact hQ
  refine Call.intro (by rfl) (Nat.le_of_ble_eq_true rfl) ?_
  refine G.eqL (L := [some (.int _), some (.int _), some (.int _), some (.int _), none, none]) rfl ?_
  refine B_Model_isAhead_0 ?_
  simp only [wp_cons, wp_nil, List.getElem?_cons_zero, List.getElem?_cons_succ, List.set_cons_zero, List.set_cons_succ, s_iload_n0, ldI_s, s_invokestatic, rc_s, ob_s, List.drop_succ_cons, List.drop_zero, List.take_succ_cons, List.take_zero, List.reverse_cons, List.reverse_nil, List.nil_append, List.cons_append, List.length_cons, List.length_nil, Nat.reduceEqDiff, reduceIte, p1_s, p2_s, l1_s, d1, Int.reduceToNat, Nat.reduceAdd, Nat.reduceLeDiff, true_and, and_true, Nat.le_refl, true_implies, forall_const, not_false_eq_true, false_implies, not_true_eq_false, reduceCtorEq, tl_s, tl_n, rf_s, true_or, or_true]
  refine Mdl_y_c p1 ?_
  refine B_Model_isAhead_4 ?_
  simp only [wp_cons, wp_nil, List.getElem?_cons_zero, List.getElem?_cons_succ, List.set_cons_zero, List.set_cons_succ, s_iload_n1, ldI_s, s_invokestatic, rc_s, ob_s, List.drop_succ_cons, List.drop_zero, List.take_succ_cons, List.take_zero, List.reverse_cons, List.reverse_nil, List.nil_append, List.cons_append, List.length_cons, List.length_nil, Nat.reduceEqDiff, reduceIte, p1_s, p2_s, l1_s, d1, Int.reduceToNat, Nat.reduceAdd, Nat.reduceLeDiff, true_and, and_true, Nat.le_refl, true_implies, forall_const, not_false_eq_true, false_implies, not_true_eq_false, reduceCtorEq, tl_s, tl_n, rf_s, true_or, or_true]
  refine Mdl_y_c p2 ?_
  by_cases c : p % 1000 ≤ q % 1000
  · refine B_Model_isAhead_8 ?_
    simp only [wp_cons, wp_nil, List.getElem?_cons_zero, List.getElem?_cons_succ, List.set_cons_zero, List.set_cons_succ, s_if_icmp_gt, p2_s, true_and, and_true, Nat.le_refl, true_implies, forall_const, not_false_eq_true, false_implies, not_true_eq_false, reduceCtorEq, tl_s, tl_n, rf_s, List.cons_append, List.nil_append, true_or, or_true]
    refine b_lt (by omega) (by omega) (fun cc => absurd cc (by omega)) (fun cc => ?_)
    refine B_Model_isAhead_11 ?_
    simp only [wp_cons, wp_nil, List.getElem?_cons_zero, List.getElem?_cons_succ, List.set_cons_zero, List.set_cons_succ, s_iload_n0, ldI_s, s_goto, true_and, and_true, Nat.le_refl, true_implies, forall_const, not_false_eq_true, false_implies, not_true_eq_false, reduceCtorEq, tl_s, tl_n, rf_s, List.cons_append, List.nil_append, true_or, or_true]
    refine B_Model_isAhead_16 ?_
    simp only [wp_cons, wp_nil, List.getElem?_cons_zero, List.getElem?_cons_succ, List.set_cons_zero, List.set_cons_succ, s_istore, p1_s, s1_0, s1_s, kx_i, kx_r, kx_n, kx_l, kx_0, s_iload_n0, ldI_s, s_invokestatic, rc_s, ob_s, List.drop_succ_cons, List.drop_zero, List.take_succ_cons, List.take_zero, List.reverse_cons, List.reverse_nil, List.nil_append, List.cons_append, List.length_cons, List.length_nil, Nat.reduceEqDiff, reduceIte, p2_s, l1_s, d1, Int.reduceToNat, Nat.reduceAdd, Nat.reduceLeDiff, true_and, and_true, Nat.le_refl, true_implies, forall_const, not_false_eq_true, false_implies, not_true_eq_false, reduceCtorEq, tl_s, tl_n, rf_s, true_or, or_true]
    refine Mdl_y_c p1 ?_
    refine B_Model_isAhead_22 ?_
    simp only [wp_cons, wp_nil, List.getElem?_cons_zero, List.getElem?_cons_succ, List.set_cons_zero, List.set_cons_succ, s_iload_n1, ldI_s, s_invokestatic, rc_s, ob_s, List.drop_succ_cons, List.drop_zero, List.take_succ_cons, List.take_zero, List.reverse_cons, List.reverse_nil, List.nil_append, List.cons_append, List.length_cons, List.length_nil, Nat.reduceEqDiff, reduceIte, p1_s, p2_s, l1_s, d1, Int.reduceToNat, Nat.reduceAdd, Nat.reduceLeDiff, true_and, and_true, Nat.le_refl, true_implies, forall_const, not_false_eq_true, false_implies, not_true_eq_false, reduceCtorEq, tl_s, tl_n, rf_s, true_or, or_true]
    refine Mdl_y_c p2 ?_
    refine B_Model_isAhead_26 ?_
    simp only [wp_cons, wp_nil, List.getElem?_cons_zero, List.getElem?_cons_succ, List.set_cons_zero, List.set_cons_succ, s_if_icmp_gt, p2_s, true_and, and_true, Nat.le_refl, true_implies, forall_const, not_false_eq_true, false_implies, not_true_eq_false, reduceCtorEq, tl_s, tl_n, rf_s, List.cons_append, List.nil_append, true_or, or_true]
    refine b_lt (by omega) (by omega) (fun cc => absurd cc (by omega)) (fun cc => ?_)
    refine B_Model_isAhead_29 ?_
    simp only [wp_cons, wp_nil, List.getElem?_cons_zero, List.getElem?_cons_succ, List.set_cons_zero, List.set_cons_succ, s_iload_n1, ldI_s, s_goto, true_and, and_true, Nat.le_refl, true_implies, forall_const, not_false_eq_true, false_implies, not_true_eq_false, reduceCtorEq, tl_s, tl_n, rf_s, List.cons_append, List.nil_append, true_or, or_true]
    exact main p q p1 p2 (fun a b => ray_lo a (by omega)) (fun n => ray_n (by omega))
  · refine B_Model_isAhead_8 ?_
    simp only [wp_cons, wp_nil, List.getElem?_cons_zero, List.getElem?_cons_succ, List.set_cons_zero, List.set_cons_succ, s_if_icmp_gt, p2_s, true_and, and_true, Nat.le_refl, true_implies, forall_const, not_false_eq_true, false_implies, not_true_eq_false, reduceCtorEq, tl_s, tl_n, rf_s, List.cons_append, List.nil_append, true_or, or_true]
    refine b_lt (by omega) (by omega) (fun cc => ?_) (fun cc => absurd cc (by omega))
    refine B_Model_isAhead_15 ?_
    simp only [wp_cons, wp_nil, List.getElem?_cons_zero, List.getElem?_cons_succ, List.set_cons_zero, List.set_cons_succ, s_iload_n1, ldI_s, true_and, and_true, Nat.le_refl, true_implies, forall_const, not_false_eq_true, false_implies, not_true_eq_false, reduceCtorEq, tl_s, tl_n, rf_s, List.cons_append, List.nil_append, true_or, or_true]
    refine B_Model_isAhead_16 ?_
    simp only [wp_cons, wp_nil, List.getElem?_cons_zero, List.getElem?_cons_succ, List.set_cons_zero, List.set_cons_succ, s_istore, p1_s, s1_0, s1_s, kx_i, kx_r, kx_n, kx_l, kx_0, s_iload_n0, ldI_s, s_invokestatic, rc_s, ob_s, List.drop_succ_cons, List.drop_zero, List.take_succ_cons, List.take_zero, List.reverse_cons, List.reverse_nil, List.nil_append, List.cons_append, List.length_cons, List.length_nil, Nat.reduceEqDiff, reduceIte, p2_s, l1_s, d1, Int.reduceToNat, Nat.reduceAdd, Nat.reduceLeDiff, true_and, and_true, Nat.le_refl, true_implies, forall_const, not_false_eq_true, false_implies, not_true_eq_false, reduceCtorEq, tl_s, tl_n, rf_s, true_or, or_true]
    refine Mdl_y_c p1 ?_
    refine B_Model_isAhead_22 ?_
    simp only [wp_cons, wp_nil, List.getElem?_cons_zero, List.getElem?_cons_succ, List.set_cons_zero, List.set_cons_succ, s_iload_n1, ldI_s, s_invokestatic, rc_s, ob_s, List.drop_succ_cons, List.drop_zero, List.take_succ_cons, List.take_zero, List.reverse_cons, List.reverse_nil, List.nil_append, List.cons_append, List.length_cons, List.length_nil, Nat.reduceEqDiff, reduceIte, p1_s, p2_s, l1_s, d1, Int.reduceToNat, Nat.reduceAdd, Nat.reduceLeDiff, true_and, and_true, Nat.le_refl, true_implies, forall_const, not_false_eq_true, false_implies, not_true_eq_false, reduceCtorEq, tl_s, tl_n, rf_s, true_or, or_true]
    refine Mdl_y_c p2 ?_
    refine B_Model_isAhead_26 ?_
    simp only [wp_cons, wp_nil, List.getElem?_cons_zero, List.getElem?_cons_succ, List.set_cons_zero, List.set_cons_succ, s_if_icmp_gt, p2_s, true_and, and_true, Nat.le_refl, true_implies, forall_const, not_false_eq_true, false_implies, not_true_eq_false, reduceCtorEq, tl_s, tl_n, rf_s, List.cons_append, List.nil_append, true_or, or_true]
    refine b_lt (by omega) (by omega) (fun cc => ?_) (fun cc => absurd cc (by omega))
    refine B_Model_isAhead_33 ?_
    simp only [wp_cons, wp_nil, List.getElem?_cons_zero, List.getElem?_cons_succ, List.set_cons_zero, List.set_cons_succ, s_iload_n0, ldI_s, true_and, and_true, Nat.le_refl, true_implies, forall_const, not_false_eq_true, false_implies, not_true_eq_false, reduceCtorEq, tl_s, tl_n, rf_s, List.cons_append, List.nil_append, true_or, or_true]
    exact main q p p2 p1 (fun a b => ray_hi (by omega) a) (fun n => ray_n (by omega))
