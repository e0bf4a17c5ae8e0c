/-! ===== the reference: ends ===== -/
/-! blocks of Model_isEnd -/
theorem ml_Model_isEnd : (g_m Model_isEnd).2.2.1 = 2 := rfl
theorem rt_Model_isEnd : (g_m Model_isEnd).2.2.2.1 = (some .boolean) := rfl
theorem B_Model_isEnd_0 {d mc ms cs ss : Nat} {L : List (Option Value)} {st : List Value} {h : g_H} {Q : g_Po} (hw : g_wp Model_isEnd d mc ms Q 7 [(0, 1, 0, 0, 0, 0, .aload_n 0), (1, 1, 0, 0, 0, 0, .iload_n 1), (2, 1, 0, 0, 0, 2, .iconst 2), (3, 1, 0, 0, 0, 0, .idiv), (4, 3, 120, 7, 4035, 1, .invokevirtual 61)] cs ss L st h) : G Model_isEnd d mc ms cs ss 0 L st h Q := G.run (by decide +kernel) hw
theorem B_Model_isEnd_7 {d mc ms cs ss : Nat} {L : List (Option Value)} {st : List Value} {h : g_H} {Q : g_Po} (hw : g_wp Model_isEnd d mc ms Q 10 [(7, 3, 14, 0, 0, 0, .ifCond .ne 7)] cs ss L st h) : G Model_isEnd d mc ms cs ss 7 L st h Q := G.run (by decide +kernel) hw
theorem B_Model_isEnd_10 {d mc ms cs ss : Nat} {L : List (Option Value)} {st : List Value} {h : g_H} {Q : g_Po} (hw : g_wp Model_isEnd d mc ms Q 14 [(10, 1, 0, 0, 0, 1, .iconst 1), (11, 3, 15, 0, 0, 0, .goto 4)] cs ss L st h) : G Model_isEnd d mc ms cs ss 10 L st h Q := G.run (by decide +kernel) hw
theorem B_Model_isEnd_14 {d mc ms cs ss : Nat} {L : List (Option Value)} {st : List Value} {h : g_H} {Q : g_Po} (hw : g_wp Model_isEnd d mc ms Q 15 [(14, 1, 0, 0, 0, 0, .iconst 0)] cs ss L st h) : G Model_isEnd d mc ms cs ss 14 L st h Q := G.run (by decide +kernel) hw
theorem B_Model_isEnd_15 {d mc ms cs ss : Nat} {L : List (Option Value)} {st : List Value} {h : g_H} {Q : g_Po} (hw : g_wp Model_isEnd d mc ms Q 16 [(15, 1, 0, 0, 0, 0, .ireturn)] cs ss L st h) : G Model_isEnd d mc ms cs ss 15 L st h Q := G.run (by decide +kernel) hw
/-! blocks of Model_endIndex -/
theorem ml_Model_endIndex : (g_m Model_endIndex).2.2.1 = 2 := rfl
theorem rt_Model_endIndex : (g_m Model_endIndex).2.2.2.1 = (some .int) := rfl
theorem B_Model_endIndex_0 {d mc ms cs ss : Nat} {L : List (Option Value)} {st : List Value} {h : g_H} {Q : g_Po} (hw : g_wp Model_endIndex d mc ms Q 6 [(0, 1, 0, 0, 0, 0, .iload_n 1), (1, 1, 0, 0, 0, 2, .iconst 2), (2, 1, 0, 0, 0, 0, .irem), (3, 3, 10, 0, 0, 0, .ifCond .ne 7)] cs ss L st h) : G Model_endIndex d mc ms cs ss 0 L st h Q := G.run (by decide +kernel) hw
theorem B_Model_endIndex_6 {d mc ms cs ss : Nat} {L : List (Option Value)} {st : List Value} {h : g_H} {Q : g_Po} (hw : g_wp Model_endIndex d mc ms Q 10 [(6, 1, 0, 0, 0, 0, .iconst 0), (7, 3, 19, 0, 0, 0, .goto 12)] cs ss L st h) : G Model_endIndex d mc ms cs ss 6 L st h Q := G.run (by decide +kernel) hw
theorem B_Model_endIndex_10 {d mc ms cs ss : Nat} {L : List (Option Value)} {st : List Value} {h : g_H} {Q : g_Po} (hw : g_wp Model_endIndex d mc ms Q 17 [(10, 1, 0, 0, 0, 0, .aload_n 0), (11, 1, 0, 0, 0, 0, .iload_n 1), (12, 1, 0, 0, 0, 2, .iconst 2), (13, 1, 0, 0, 0, 0, .idiv), (14, 3, 119, 7, 4047, 1, .invokevirtual 57)] cs ss L st h) : G Model_endIndex d mc ms cs ss 10 L st h Q := G.run (by decide +kernel) hw
theorem B_Model_endIndex_17 {d mc ms cs ss : Nat} {L : List (Option Value)} {st : List Value} {h : g_H} {Q : g_Po} (hw : g_wp Model_endIndex d mc ms Q 19 [(17, 1, 0, 0, 0, 1, .iconst 1), (18, 1, 0, 0, 0, 0, .isub)] cs ss L st h) : G Model_endIndex d mc ms cs ss 17 L st h Q := G.run (by decide +kernel) hw
theorem B_Model_endIndex_19 {d mc ms cs ss : Nat} {L : List (Option Value)} {st : List Value} {h : g_H} {Q : g_Po} (hw : g_wp Model_endIndex d mc ms Q 20 [(19, 1, 0, 0, 0, 0, .ireturn)] cs ss L st h) : G Model_endIndex d mc ms cs ss 19 L st h Q := G.run (by decide +kernel) hw
/-! blocks of Model_endPoint -/
theorem ml_Model_endPoint : (g_m Model_endPoint).2.2.1 = 2 := rfl
theorem rt_Model_endPoint : (g_m Model_endPoint).2.2.2.1 = (some .int) := rfl
theorem B_Model_endPoint_0 {d mc ms cs ss : Nat} {L : List (Option Value)} {st : List Value} {h : g_H} {Q : g_Po} (hw : g_wp Model_endPoint d mc ms Q 9 [(0, 1, 0, 0, 0, 0, .aload_n 0), (1, 1, 0, 0, 0, 0, .iload_n 1), (2, 1, 0, 0, 0, 2, .iconst 2), (3, 1, 0, 0, 0, 0, .idiv), (4, 1, 0, 0, 0, 0, .aload_n 0), (5, 1, 0, 0, 0, 0, .iload_n 1), (6, 3, 143, 7, 4109, 1, .invokevirtual 138)] cs ss L st h) : G Model_endPoint d mc ms cs ss 0 L st h Q := G.run (by decide +kernel) hw
theorem B_Model_endPoint_9 {d mc ms cs ss : Nat} {L : List (Option Value)} {st : List Value} {h : g_H} {Q : g_Po} (hw : g_wp Model_endPoint d mc ms Q 12 [(9, 3, 121, 7, 4051, 2, .invokevirtual 95)] cs ss L st h) : G Model_endPoint d mc ms cs ss 9 L st h Q := G.run (by decide +kernel) hw
theorem B_Model_endPoint_12 {d mc ms cs ss : Nat} {L : List (Option Value)} {st : List Value} {h : g_H} {Q : g_Po} (hw : g_wp Model_endPoint d mc ms Q 13 [(12, 1, 0, 0, 0, 0, .ireturn)] cs ss L st h) : G Model_endPoint d mc ms cs ss 12 L st h Q := G.run (by decide +kernel) hw
/-! blocks of Model_beside -/
theorem ml_Model_beside : (g_m Model_beside).2.2.1 = 2 := rfl
theorem rt_Model_beside : (g_m Model_beside).2.2.2.1 = (some .int) := rfl
theorem B_Model_beside_0 {d mc ms cs ss : Nat} {L : List (Option Value)} {st : List Value} {h : g_H} {Q : g_Po} (hw : g_wp Model_beside d mc ms Q 10 [(0, 1, 0, 0, 0, 0, .aload_n 0), (1, 1, 0, 0, 0, 0, .iload_n 1), (2, 1, 0, 0, 0, 2, .iconst 2), (3, 1, 0, 0, 0, 0, .idiv), (4, 1, 0, 0, 0, 0, .iload_n 1), (5, 1, 0, 0, 0, 2, .iconst 2), (6, 1, 0, 0, 0, 0, .irem), (7, 3, 14, 0, 0, 0, .ifCond .ne 7)] cs ss L st h) : G Model_beside d mc ms cs ss 0 L st h Q := G.run (by decide +kernel) hw
theorem B_Model_beside_10 {d mc ms cs ss : Nat} {L : List (Option Value)} {st : List Value} {h : g_H} {Q : g_Po} (hw : g_wp Model_beside d mc ms Q 14 [(10, 1, 0, 0, 0, 1, .iconst 1), (11, 3, 23, 0, 0, 0, .goto 12)] cs ss L st h) : G Model_beside d mc ms cs ss 10 L st h Q := G.run (by decide +kernel) hw
theorem B_Model_beside_14 {d mc ms cs ss : Nat} {L : List (Option Value)} {st : List Value} {h : g_H} {Q : g_Po} (hw : g_wp Model_beside d mc ms Q 21 [(14, 1, 0, 0, 0, 0, .aload_n 0), (15, 1, 0, 0, 0, 0, .iload_n 1), (16, 1, 0, 0, 0, 2, .iconst 2), (17, 1, 0, 0, 0, 0, .idiv), (18, 3, 119, 7, 4047, 1, .invokevirtual 57)] cs ss L st h) : G Model_beside d mc ms cs ss 14 L st h Q := G.run (by decide +kernel) hw
theorem B_Model_beside_21 {d mc ms cs ss : Nat} {L : List (Option Value)} {st : List Value} {h : g_H} {Q : g_Po} (hw : g_wp Model_beside d mc ms Q 23 [(21, 1, 0, 0, 0, 2, .iconst 2), (22, 1, 0, 0, 0, 0, .isub)] cs ss L st h) : G Model_beside d mc ms cs ss 21 L st h Q := G.run (by decide +kernel) hw
theorem B_Model_beside_23 {d mc ms cs ss : Nat} {L : List (Option Value)} {st : List Value} {h : g_H} {Q : g_Po} (hw : g_wp Model_beside d mc ms Q 26 [(23, 3, 121, 7, 4051, 2, .invokevirtual 95)] cs ss L st h) : G Model_beside d mc ms cs ss 23 L st h Q := G.run (by decide +kernel) hw
theorem B_Model_beside_26 {d mc ms cs ss : Nat} {L : List (Option Value)} {st : List Value} {h : g_H} {Q : g_Po} (hw : g_wp Model_beside d mc ms Q 27 [(26, 1, 0, 0, 0, 0, .ireturn)] cs ss L st h) : G Model_beside d mc ms cs ss 26 L st h Q := G.run (by decide +kernel) hw
/-! blocks of Model_middle -/
theorem ml_Model_middle : (g_m Model_middle).2.2.1 = 2 := rfl
theorem rt_Model_middle : (g_m Model_middle).2.2.2.1 = (some .int) := rfl
theorem B_Model_middle_0 {d mc ms cs ss : Nat} {L : List (Option Value)} {st : List Value} {h : g_H} {Q : g_Po} (hw : g_wp Model_middle d mc ms Q 4 [(0, 1, 0, 0, 0, 0, .iload_n 0), (1, 3, 114, 0, 4058, 1, .invokestatic 64)] cs ss L st h) : G Model_middle d mc ms cs ss 0 L st h Q := G.run (by decide +kernel) hw
theorem B_Model_middle_4 {d mc ms cs ss : Nat} {L : List (Option Value)} {st : List Value} {h : g_H} {Q : g_Po} (hw : g_wp Model_middle d mc ms Q 8 [(4, 1, 0, 0, 0, 0, .iload_n 1), (5, 3, 114, 0, 4058, 1, .invokestatic 64)] cs ss L st h) : G Model_middle d mc ms cs ss 4 L st h Q := G.run (by decide +kernel) hw
theorem B_Model_middle_8 {d mc ms cs ss : Nat} {L : List (Option Value)} {st : List Value} {h : g_H} {Q : g_Po} (hw : g_wp Model_middle d mc ms Q 15 [(8, 1, 0, 0, 0, 0, .iadd), (9, 1, 0, 0, 0, 2, .iconst 2), (10, 1, 0, 0, 0, 0, .idiv), (11, 1, 0, 0, 0, 0, .iload_n 0), (12, 3, 115, 0, 4061, 1, .invokestatic 67)] cs ss L st h) : G Model_middle d mc ms cs ss 8 L st h Q := G.run (by decide +kernel) hw
theorem B_Model_middle_15 {d mc ms cs ss : Nat} {L : List (Option Value)} {st : List Value} {h : g_H} {Q : g_Po} (hw : g_wp Model_middle d mc ms Q 19 [(15, 1, 0, 0, 0, 0, .iload_n 1), (16, 3, 115, 0, 4061, 1, .invokestatic 67)] cs ss L st h) : G Model_middle d mc ms cs ss 15 L st h Q := G.run (by decide +kernel) hw
theorem B_Model_middle_19 {d mc ms cs ss : Nat} {L : List (Option Value)} {st : List Value} {h : g_H} {Q : g_Po} (hw : g_wp Model_middle d mc ms Q 25 [(19, 1, 0, 0, 0, 0, .iadd), (20, 1, 0, 0, 0, 2, .iconst 2), (21, 1, 0, 0, 0, 0, .idiv), (22, 3, 113, 0, 3229, 2, .invokestatic 84)] cs ss L st h) : G Model_middle d mc ms cs ss 19 L st h Q := G.run (by decide +kernel) hw
theorem B_Model_middle_25 {d mc ms cs ss : Nat} {L : List (Option Value)} {st : List Value} {h : g_H} {Q : g_Po} (hw : g_wp Model_middle d mc ms Q 26 [(25, 1, 0, 0, 0, 0, .ireturn)] cs ss L st h) : G Model_middle d mc ms cs ss 25 L st h Q := G.run (by decide +kernel) hw
/-! blocks of Model_mayBeOne -/
theorem ml_Model_mayBeOne : (g_m Model_mayBeOne).2.2.1 = 3 := rfl
theorem rt_Model_mayBeOne : (g_m Model_mayBeOne).2.2.2.1 = (some .boolean) := rfl
theorem B_Model_mayBeOne_0 {d mc ms cs ss : Nat} {L : List (Option Value)} {st : List Value} {h : g_H} {Q : g_Po} (hw : g_wp Model_mayBeOne d mc ms Q 9 [(0, 1, 0, 0, 0, 0, .iload_n 1), (1, 1, 0, 0, 0, 2, .iconst 2), (2, 1, 0, 0, 0, 0, .idiv), (3, 1, 0, 0, 0, 0, .iload_n 2), (4, 1, 0, 0, 0, 2, .iconst 2), (5, 1, 0, 0, 0, 0, .idiv), (6, 3, 20, 0, 0, 0, .if_icmp .ne 14)] cs ss L st h) : G Model_mayBeOne d mc ms cs ss 0 L st h Q := G.run (by decide +kernel) hw
theorem B_Model_mayBeOne_9 {d mc ms cs ss : Nat} {L : List (Option Value)} {st : List Value} {h : g_H} {Q : g_Po} (hw : g_wp Model_mayBeOne d mc ms Q 16 [(9, 1, 0, 0, 0, 0, .aload_n 0), (10, 1, 0, 0, 0, 0, .iload_n 1), (11, 1, 0, 0, 0, 2, .iconst 2), (12, 1, 0, 0, 0, 0, .idiv), (13, 3, 119, 7, 4047, 1, .invokevirtual 57)] cs ss L st h) : G Model_mayBeOne d mc ms cs ss 9 L st h Q := G.run (by decide +kernel) hw
theorem B_Model_mayBeOne_16 {d mc ms cs ss : Nat} {L : List (Option Value)} {st : List Value} {h : g_H} {Q : g_Po} (hw : g_wp Model_mayBeOne d mc ms Q 20 [(16, 1, 0, 0, 0, 4, .iconst 4), (17, 3, 24, 0, 0, 0, .if_icmp .lt 7)] cs ss L st h) : G Model_mayBeOne d mc ms cs ss 16 L st h Q := G.run (by decide +kernel) hw
theorem B_Model_mayBeOne_20 {d mc ms cs ss : Nat} {L : List (Option Value)} {st : List Value} {h : g_H} {Q : g_Po} (hw : g_wp Model_mayBeOne d mc ms Q 24 [(20, 1, 0, 0, 0, 1, .iconst 1), (21, 3, 25, 0, 0, 0, .goto 4)] cs ss L st h) : G Model_mayBeOne d mc ms cs ss 20 L st h Q := G.run (by decide +kernel) hw
theorem B_Model_mayBeOne_24 {d mc ms cs ss : Nat} {L : List (Option Value)} {st : List Value} {h : g_H} {Q : g_Po} (hw : g_wp Model_mayBeOne d mc ms Q 25 [(24, 1, 0, 0, 0, 0, .iconst 0)] cs ss L st h) : G Model_mayBeOne d mc ms cs ss 24 L st h Q := G.run (by decide +kernel) hw
theorem B_Model_mayBeOne_25 {d mc ms cs ss : Nat} {L : List (Option Value)} {st : List Value} {h : g_H} {Q : g_Po} (hw : g_wp Model_mayBeOne d mc ms Q 26 [(25, 1, 0, 0, 0, 0, .ireturn)] cs ss L st h) : G Model_mayBeOne d mc ms cs ss 25 L st h Q := G.run (by decide +kernel) hw
/-! blocks of Model_mayWeld -/
theorem ml_Model_mayWeld : (g_m Model_mayWeld).2.2.1 = 6 := rfl
theorem rt_Model_mayWeld : (g_m Model_mayWeld).2.2.2.1 = (some .boolean) := rfl
theorem B_Model_mayWeld_0 {d mc ms cs ss : Nat} {L : List (Option Value)} {st : List Value} {h : g_H} {Q : g_Po} (hw : g_wp Model_mayWeld d mc ms Q 5 [(0, 1, 0, 0, 0, 0, .aload_n 0), (1, 1, 0, 0, 0, 0, .iload_n 1), (2, 3, 144, 7, 4105, 1, .invokevirtual 141)] cs ss L st h) : G Model_mayWeld d mc ms cs ss 0 L st h Q := G.run (by decide +kernel) hw
theorem B_Model_mayWeld_5 {d mc ms cs ss : Nat} {L : List (Option Value)} {st : List Value} {h : g_H} {Q : g_Po} (hw : g_wp Model_mayWeld d mc ms Q 10 [(5, 1, 0, 0, 0, 0, .aload_n 0), (6, 1, 0, 0, 0, 0, .iload_n 2), (7, 3, 144, 7, 4105, 1, .invokevirtual 141)] cs ss L st h) : G Model_mayWeld d mc ms cs ss 5 L st h Q := G.run (by decide +kernel) hw
theorem B_Model_mayWeld_10 {d mc ms cs ss : Nat} {L : List (Option Value)} {st : List Value} {h : g_H} {Q : g_Po} (hw : g_wp Model_mayWeld d mc ms Q 13 [(10, 3, 123, 0, 4055, 2, .invokestatic 98)] cs ss L st h) : G Model_mayWeld d mc ms cs ss 10 L st h Q := G.run (by decide +kernel) hw
theorem B_Model_mayWeld_13 {d mc ms cs ss : Nat} {L : List (Option Value)} {st : List Value} {h : g_H} {Q : g_Po} (hw : g_wp Model_mayWeld d mc ms Q 20 [(13, 2, 0, 0, 0, 0, .istore 4), (15, 1, 0, 0, 0, 0, .aload_n 0), (16, 1, 0, 0, 0, 0, .iload_n 1), (17, 3, 144, 7, 4105, 1, .invokevirtual 141)] cs ss L st h) : G Model_mayWeld d mc ms cs ss 13 L st h Q := G.run (by decide +kernel) hw
theorem B_Model_mayWeld_20 {d mc ms cs ss : Nat} {L : List (Option Value)} {st : List Value} {h : g_H} {Q : g_Po} (hw : g_wp Model_mayWeld d mc ms Q 25 [(20, 1, 0, 0, 0, 0, .aload_n 0), (21, 1, 0, 0, 0, 0, .iload_n 2), (22, 3, 144, 7, 4105, 1, .invokevirtual 141)] cs ss L st h) : G Model_mayWeld d mc ms cs ss 20 L st h Q := G.run (by decide +kernel) hw
theorem B_Model_mayWeld_25 {d mc ms cs ss : Nat} {L : List (Option Value)} {st : List Value} {h : g_H} {Q : g_Po} (hw : g_wp Model_mayWeld d mc ms Q 28 [(25, 3, 146, 0, 4113, 2, .invokestatic 144)] cs ss L st h) : G Model_mayWeld d mc ms cs ss 25 L st h Q := G.run (by decide +kernel) hw
theorem B_Model_mayWeld_28 {d mc ms cs ss : Nat} {L : List (Option Value)} {st : List Value} {h : g_H} {Q : g_Po} (hw : g_wp Model_mayWeld d mc ms Q 35 [(28, 2, 0, 0, 0, 0, .istore 5), (30, 2, 0, 0, 0, 0, .iload 4), (32, 3, 76, 0, 0, 0, .ifCond .le 44)] cs ss L st h) : G Model_mayWeld d mc ms cs ss 28 L st h Q := G.run (by decide +kernel) hw
theorem B_Model_mayWeld_35 {d mc ms cs ss : Nat} {L : List (Option Value)} {st : List Value} {h : g_H} {Q : g_Po} (hw : g_wp Model_mayWeld d mc ms Q 43 [(35, 2, 0, 0, 0, 0, .iload 4), (37, 1, 0, 0, 0, 0, .iload_n 3), (38, 1, 0, 0, 0, 0, .iload_n 3), (39, 1, 0, 0, 0, 0, .imul), (40, 3, 76, 0, 0, 0, .if_icmp .gt 36)] cs ss L st h) : G Model_mayWeld d mc ms cs ss 35 L st h Q := G.run (by decide +kernel) hw
theorem B_Model_mayWeld_43 {d mc ms cs ss : Nat} {L : List (Option Value)} {st : List Value} {h : g_H} {Q : g_Po} (hw : g_wp Model_mayWeld d mc ms Q 49 [(43, 1, 0, 0, 0, 0, .aload_n 0), (44, 1, 0, 0, 0, 0, .iload_n 1), (45, 1, 0, 0, 0, 0, .iload_n 2), (46, 3, 147, 7, 4116, 2, .invokevirtual 147)] cs ss L st h) : G Model_mayWeld d mc ms cs ss 43 L st h Q := G.run (by decide +kernel) hw
theorem B_Model_mayWeld_49 {d mc ms cs ss : Nat} {L : List (Option Value)} {st : List Value} {h : g_H} {Q : g_Po} (hw : g_wp Model_mayWeld d mc ms Q 52 [(49, 3, 76, 0, 0, 0, .ifCond .eq 27)] cs ss L st h) : G Model_mayWeld d mc ms cs ss 49 L st h Q := G.run (by decide +kernel) hw
theorem B_Model_mayWeld_52 {d mc ms cs ss : Nat} {L : List (Option Value)} {st : List Value} {h : g_H} {Q : g_Po} (hw : g_wp Model_mayWeld d mc ms Q 59 [(52, 2, 0, 0, 0, 0, .iload 5), (54, 1, 0, 0, 0, 0, .aload_n 0), (55, 1, 0, 0, 0, 0, .iload_n 1), (56, 3, 145, 7, 4120, 1, .invokevirtual 150)] cs ss L st h) : G Model_mayWeld d mc ms cs ss 52 L st h Q := G.run (by decide +kernel) hw
theorem B_Model_mayWeld_59 {d mc ms cs ss : Nat} {L : List (Option Value)} {st : List Value} {h : g_H} {Q : g_Po} (hw : g_wp Model_mayWeld d mc ms Q 62 [(59, 3, 76, 0, 0, 0, .if_icmp .eq 17)] cs ss L st h) : G Model_mayWeld d mc ms cs ss 59 L st h Q := G.run (by decide +kernel) hw
theorem B_Model_mayWeld_62 {d mc ms cs ss : Nat} {L : List (Option Value)} {st : List Value} {h : g_H} {Q : g_Po} (hw : g_wp Model_mayWeld d mc ms Q 69 [(62, 2, 0, 0, 0, 0, .iload 5), (64, 1, 0, 0, 0, 0, .aload_n 0), (65, 1, 0, 0, 0, 0, .iload_n 2), (66, 3, 145, 7, 4120, 1, .invokevirtual 150)] cs ss L st h) : G Model_mayWeld d mc ms cs ss 62 L st h Q := G.run (by decide +kernel) hw
theorem B_Model_mayWeld_69 {d mc ms cs ss : Nat} {L : List (Option Value)} {st : List Value} {h : g_H} {Q : g_Po} (hw : g_wp Model_mayWeld d mc ms Q 72 [(69, 3, 76, 0, 0, 0, .if_icmp .eq 7)] cs ss L st h) : G Model_mayWeld d mc ms cs ss 69 L st h Q := G.run (by decide +kernel) hw
theorem B_Model_mayWeld_72 {d mc ms cs ss : Nat} {L : List (Option Value)} {st : List Value} {h : g_H} {Q : g_Po} (hw : g_wp Model_mayWeld d mc ms Q 76 [(72, 1, 0, 0, 0, 1, .iconst 1), (73, 3, 77, 0, 0, 0, .goto 4)] cs ss L st h) : G Model_mayWeld d mc ms cs ss 72 L st h Q := G.run (by decide +kernel) hw
theorem B_Model_mayWeld_76 {d mc ms cs ss : Nat} {L : List (Option Value)} {st : List Value} {h : g_H} {Q : g_Po} (hw : g_wp Model_mayWeld d mc ms Q 77 [(76, 1, 0, 0, 0, 0, .iconst 0)] cs ss L st h) : G Model_mayWeld d mc ms cs ss 76 L st h Q := G.run (by decide +kernel) hw
theorem B_Model_mayWeld_77 {d mc ms cs ss : Nat} {L : List (Option Value)} {st : List Value} {h : g_H} {Q : g_Po} (hw : g_wp Model_mayWeld d mc ms Q 78 [(77, 1, 0, 0, 0, 0, .ireturn)] cs ss L st h) : G Model_mayWeld d mc ms cs ss 77 L st h Q := G.run (by decide +kernel) hw
/-! blocks of Model_findWeld -/
theorem ml_Model_findWeld : (g_m Model_findWeld).2.2.1 = 6 := rfl
theorem rt_Model_findWeld : (g_m Model_findWeld).2.2.2.1 = (some .boolean) := rfl
theorem B_Model_findWeld_0 {d mc ms cs ss : Nat} {L : List (Option Value)} {st : List Value} {h : g_H} {Q : g_Po} (hw : g_wp Model_findWeld d mc ms Q 10 [(0, 1, 0, 0, 0, 0, .aload_n 0), (1, 2, 0, 0, 0, (-6), .bipush (-6)), (3, 3, 7, 13, 3158, 0, .putfield 153), (6, 1, 0, 0, 0, 0, .iconst 0), (7, 1, 0, 0, 0, 0, .istore_n 2), (8, 1, 0, 0, 0, 0, .iconst 0), (9, 1, 0, 0, 0, 0, .istore_n 3)] cs ss L st h) : G Model_findWeld d mc ms cs ss 0 L st h Q := G.run (by decide +kernel) hw
theorem B_Model_findWeld_10 {d mc ms cs ss : Nat} {L : List (Option Value)} {st : List Value} {h : g_H} {Q : g_Po} (hw : g_wp Model_findWeld d mc ms Q 22 [(10, 1, 0, 0, 0, 0, .iload_n 3), (11, 1, 0, 0, 0, 2, .iconst 2), (12, 1, 0, 0, 0, 0, .aload_n 0), (13, 3, 7, 0, 3145, 2, .getfield 7), (16, 1, 0, 0, 0, 0, .iconst 0), (17, 1, 0, 0, 0, 0, .iaload), (18, 1, 0, 0, 0, 0, .imul), (19, 3, 125, 0, 0, 0, .if_icmp .ge 106)] cs ss L st h) : G Model_findWeld d mc ms cs ss 10 L st h Q := G.run (by decide +kernel) hw
theorem B_Model_findWeld_22 {d mc ms cs ss : Nat} {L : List (Option Value)} {st : List Value} {h : g_H} {Q : g_Po} (hw : g_wp Model_findWeld d mc ms Q 27 [(22, 1, 0, 0, 0, 0, .iload_n 3), (23, 1, 0, 0, 0, 1, .iconst 1), (24, 1, 0, 0, 0, 0, .iadd), (25, 2, 0, 0, 0, 0, .istore 4)] cs ss L st h) : G Model_findWeld d mc ms cs ss 22 L st h Q := G.run (by decide +kernel) hw
theorem B_Model_findWeld_27 {d mc ms cs ss : Nat} {L : List (Option Value)} {st : List Value} {h : g_H} {Q : g_Po} (hw : g_wp Model_findWeld d mc ms Q 40 [(27, 2, 0, 0, 0, 0, .iload 4), (29, 1, 0, 0, 0, 2, .iconst 2), (30, 1, 0, 0, 0, 0, .aload_n 0), (31, 3, 7, 0, 3145, 2, .getfield 7), (34, 1, 0, 0, 0, 0, .iconst 0), (35, 1, 0, 0, 0, 0, .iaload), (36, 1, 0, 0, 0, 0, .imul), (37, 3, 119, 0, 0, 0, .if_icmp .ge 82)] cs ss L st h) : G Model_findWeld d mc ms cs ss 27 L st h Q := G.run (by decide +kernel) hw
theorem B_Model_findWeld_40 {d mc ms cs ss : Nat} {L : List (Option Value)} {st : List Value} {h : g_H} {Q : g_Po} (hw : g_wp Model_findWeld d mc ms Q 45 [(40, 1, 0, 0, 0, 0, .aload_n 0), (41, 1, 0, 0, 0, 0, .iload_n 3), (42, 3, 142, 7, 4097, 1, .invokevirtual 156)] cs ss L st h) : G Model_findWeld d mc ms cs ss 40 L st h Q := G.run (by decide +kernel) hw
theorem B_Model_findWeld_45 {d mc ms cs ss : Nat} {L : List (Option Value)} {st : List Value} {h : g_H} {Q : g_Po} (hw : g_wp Model_findWeld d mc ms Q 48 [(45, 3, 113, 0, 0, 0, .ifCond .eq 68)] cs ss L st h) : G Model_findWeld d mc ms cs ss 45 L st h Q := G.run (by decide +kernel) hw
theorem B_Model_findWeld_48 {d mc ms cs ss : Nat} {L : List (Option Value)} {st : List Value} {h : g_H} {Q : g_Po} (hw : g_wp Model_findWeld d mc ms Q 54 [(48, 1, 0, 0, 0, 0, .aload_n 0), (49, 2, 0, 0, 0, 0, .iload 4), (51, 3, 142, 7, 4097, 1, .invokevirtual 156)] cs ss L st h) : G Model_findWeld d mc ms cs ss 48 L st h Q := G.run (by decide +kernel) hw
theorem B_Model_findWeld_54 {d mc ms cs ss : Nat} {L : List (Option Value)} {st : List Value} {h : g_H} {Q : g_Po} (hw : g_wp Model_findWeld d mc ms Q 57 [(54, 3, 113, 0, 0, 0, .ifCond .eq 59)] cs ss L st h) : G Model_findWeld d mc ms cs ss 54 L st h Q := G.run (by decide +kernel) hw
theorem B_Model_findWeld_57 {d mc ms cs ss : Nat} {L : List (Option Value)} {st : List Value} {h : g_H} {Q : g_Po} (hw : g_wp Model_findWeld d mc ms Q 65 [(57, 1, 0, 0, 0, 0, .aload_n 0), (58, 1, 0, 0, 0, 0, .iload_n 3), (59, 2, 0, 0, 0, 0, .iload 4), (61, 1, 0, 0, 0, 0, .iload_n 1), (62, 3, 148, 7, 4101, 3, .invokevirtual 159)] cs ss L st h) : G Model_findWeld d mc ms cs ss 57 L st h Q := G.run (by decide +kernel) hw
theorem B_Model_findWeld_65 {d mc ms cs ss : Nat} {L : List (Option Value)} {st : List Value} {h : g_H} {Q : g_Po} (hw : g_wp Model_findWeld d mc ms Q 68 [(65, 3, 113, 0, 0, 0, .ifCond .eq 48)] cs ss L st h) : G Model_findWeld d mc ms cs ss 65 L st h Q := G.run (by decide +kernel) hw
theorem B_Model_findWeld_68 {d mc ms cs ss : Nat} {L : List (Option Value)} {st : List Value} {h : g_H} {Q : g_Po} (hw : g_wp Model_findWeld d mc ms Q 73 [(68, 1, 0, 0, 0, 0, .aload_n 0), (69, 1, 0, 0, 0, 0, .iload_n 3), (70, 3, 144, 7, 4105, 1, .invokevirtual 141)] cs ss L st h) : G Model_findWeld d mc ms cs ss 68 L st h Q := G.run (by decide +kernel) hw
theorem B_Model_findWeld_73 {d mc ms cs ss : Nat} {L : List (Option Value)} {st : List Value} {h : g_H} {Q : g_Po} (hw : g_wp Model_findWeld d mc ms Q 79 [(73, 1, 0, 0, 0, 0, .aload_n 0), (74, 2, 0, 0, 0, 0, .iload 4), (76, 3, 144, 7, 4105, 1, .invokevirtual 141)] cs ss L st h) : G Model_findWeld d mc ms cs ss 73 L st h Q := G.run (by decide +kernel) hw
theorem B_Model_findWeld_79 {d mc ms cs ss : Nat} {L : List (Option Value)} {st : List Value} {h : g_H} {Q : g_Po} (hw : g_wp Model_findWeld d mc ms Q 82 [(79, 3, 123, 0, 4055, 2, .invokestatic 98)] cs ss L st h) : G Model_findWeld d mc ms cs ss 79 L st h Q := G.run (by decide +kernel) hw
theorem B_Model_findWeld_82 {d mc ms cs ss : Nat} {L : List (Option Value)} {st : List Value} {h : g_H} {Q : g_Po} (hw : g_wp Model_findWeld d mc ms Q 93 [(82, 2, 0, 0, 0, 0, .istore 5), (84, 1, 0, 0, 0, 0, .aload_n 0), (85, 3, 7, 13, 3158, 0, .getfield 153), (88, 2, 0, 0, 0, (-6), .bipush (-6)), (90, 3, 99, 0, 0, 0, .if_icmp .eq 9)] cs ss L st h) : G Model_findWeld d mc ms cs ss 82 L st h Q := G.run (by decide +kernel) hw
theorem B_Model_findWeld_93 {d mc ms cs ss : Nat} {L : List (Option Value)} {st : List Value} {h : g_H} {Q : g_Po} (hw : g_wp Model_findWeld d mc ms Q 99 [(93, 2, 0, 0, 0, 0, .iload 5), (95, 1, 0, 0, 0, 0, .iload_n 2), (96, 3, 113, 0, 0, 0, .if_icmp .ge 17)] cs ss L st h) : G Model_findWeld d mc ms cs ss 93 L st h Q := G.run (by decide +kernel) hw
theorem B_Model_findWeld_99 {d mc ms cs ss : Nat} {L : List (Option Value)} {st : List Value} {h : g_H} {Q : g_Po} (hw : g_wp Model_findWeld d mc ms Q 113 [(99, 1, 0, 0, 0, 0, .aload_n 0), (100, 1, 0, 0, 0, 0, .iload_n 3), (101, 3, 7, 13, 3158, 0, .putfield 153), (104, 1, 0, 0, 0, 0, .aload_n 0), (105, 2, 0, 0, 0, 0, .iload 4), (107, 3, 7, 14, 3159, 0, .putfield 162), (110, 2, 0, 0, 0, 0, .iload 5), (112, 1, 0, 0, 0, 0, .istore_n 2)] cs ss L st h) : G Model_findWeld d mc ms cs ss 99 L st h Q := G.run (by decide +kernel) hw
theorem B_Model_findWeld_113 {d mc ms cs ss : Nat} {L : List (Option Value)} {st : List Value} {h : g_H} {Q : g_Po} (hw : g_wp Model_findWeld d mc ms Q 119 [(113, 3, 0, 0, 0, 1, .iinc 4 1), (116, 3, 27, 0, 0, 0, .goto (-89))] cs ss L st h) : G Model_findWeld d mc ms cs ss 113 L st h Q := G.run (by decide +kernel) hw
theorem B_Model_findWeld_119 {d mc ms cs ss : Nat} {L : List (Option Value)} {st : List Value} {h : g_H} {Q : g_Po} (hw : g_wp Model_findWeld d mc ms Q 125 [(119, 3, 0, 0, 0, 1, .iinc 3 1), (122, 3, 10, 0, 0, 0, .goto (-112))] cs ss L st h) : G Model_findWeld d mc ms cs ss 119 L st h Q := G.run (by decide +kernel) hw
theorem B_Model_findWeld_125 {d mc ms cs ss : Nat} {L : List (Option Value)} {st : List Value} {h : g_H} {Q : g_Po} (hw : g_wp Model_findWeld d mc ms Q 134 [(125, 1, 0, 0, 0, 0, .aload_n 0), (126, 3, 7, 13, 3158, 0, .getfield 153), (129, 2, 0, 0, 0, (-6), .bipush (-6)), (131, 3, 138, 0, 0, 0, .if_icmp .eq 7)] cs ss L st h) : G Model_findWeld d mc ms cs ss 125 L st h Q := G.run (by decide +kernel) hw
theorem B_Model_findWeld_134 {d mc ms cs ss : Nat} {L : List (Option Value)} {st : List Value} {h : g_H} {Q : g_Po} (hw : g_wp Model_findWeld d mc ms Q 138 [(134, 1, 0, 0, 0, 1, .iconst 1), (135, 3, 139, 0, 0, 0, .goto 4)] cs ss L st h) : G Model_findWeld d mc ms cs ss 134 L st h Q := G.run (by decide +kernel) hw
theorem B_Model_findWeld_138 {d mc ms cs ss : Nat} {L : List (Option Value)} {st : List Value} {h : g_H} {Q : g_Po} (hw : g_wp Model_findWeld d mc ms Q 139 [(138, 1, 0, 0, 0, 0, .iconst 0)] cs ss L st h) : G Model_findWeld d mc ms cs ss 138 L st h Q := G.run (by decide +kernel) hw
theorem B_Model_findWeld_139 {d mc ms cs ss : Nat} {L : List (Option Value)} {st : List Value} {h : g_H} {Q : g_Po} (hw : g_wp Model_findWeld d mc ms Q 140 [(139, 1, 0, 0, 0, 0, .ireturn)] cs ss L st h) : G Model_findWeld d mc ms cs ss 139 L st h Q := G.run (by decide +kernel) hw
/-! blocks of Model_welds -/
theorem ml_Model_welds : (g_m Model_welds).2.2.1 = 4 := rfl
theorem rt_Model_welds : (g_m Model_welds).2.2.2.1 = (some .int) := rfl
theorem B_Model_welds_0 {d mc ms cs ss : Nat} {L : List (Option Value)} {st : List Value} {h : g_H} {Q : g_Po} (hw : g_wp Model_welds d mc ms Q 2 [(0, 1, 0, 0, 0, 0, .iconst 0), (1, 1, 0, 0, 0, 0, .istore_n 2)] cs ss L st h) : G Model_welds d mc ms cs ss 0 L st h Q := G.run (by decide +kernel) hw
theorem B_Model_welds_2 {d mc ms cs ss : Nat} {L : List (Option Value)} {st : List Value} {h : g_H} {Q : g_Po} (hw : g_wp Model_welds d mc ms Q 7 [(2, 1, 0, 0, 0, 0, .aload_n 0), (3, 1, 0, 0, 0, 0, .iload_n 1), (4, 3, 149, 7, 4093, 1, .invokevirtual 165)] cs ss L st h) : G Model_welds d mc ms cs ss 2 L st h Q := G.run (by decide +kernel) hw
theorem B_Model_welds_7 {d mc ms cs ss : Nat} {L : List (Option Value)} {st : List Value} {h : g_H} {Q : g_Po} (hw : g_wp Model_welds d mc ms Q 10 [(7, 3, 78, 0, 0, 0, .ifCond .eq 71)] cs ss L st h) : G Model_welds d mc ms cs ss 7 L st h Q := G.run (by decide +kernel) hw
theorem B_Model_welds_10 {d mc ms cs ss : Nat} {L : List (Option Value)} {st : List Value} {h : g_H} {Q : g_Po} (hw : g_wp Model_welds d mc ms Q 18 [(10, 1, 0, 0, 0, 0, .aload_n 0), (11, 1, 0, 0, 0, 0, .aload_n 0), (12, 3, 7, 13, 3158, 0, .getfield 153), (15, 3, 144, 7, 4105, 1, .invokevirtual 141)] cs ss L st h) : G Model_welds d mc ms cs ss 10 L st h Q := G.run (by decide +kernel) hw
theorem B_Model_welds_18 {d mc ms cs ss : Nat} {L : List (Option Value)} {st : List Value} {h : g_H} {Q : g_Po} (hw : g_wp Model_welds d mc ms Q 26 [(18, 1, 0, 0, 0, 0, .aload_n 0), (19, 1, 0, 0, 0, 0, .aload_n 0), (20, 3, 7, 14, 3159, 0, .getfield 162), (23, 3, 144, 7, 4105, 1, .invokevirtual 141)] cs ss L st h) : G Model_welds d mc ms cs ss 18 L st h Q := G.run (by decide +kernel) hw
theorem B_Model_welds_26 {d mc ms cs ss : Nat} {L : List (Option Value)} {st : List Value} {h : g_H} {Q : g_Po} (hw : g_wp Model_welds d mc ms Q 29 [(26, 3, 146, 0, 4113, 2, .invokestatic 144)] cs ss L st h) : G Model_welds d mc ms cs ss 26 L st h Q := G.run (by decide +kernel) hw
theorem B_Model_welds_29 {d mc ms cs ss : Nat} {L : List (Option Value)} {st : List Value} {h : g_H} {Q : g_Po} (hw : g_wp Model_welds d mc ms Q 46 [(29, 1, 0, 0, 0, 0, .istore_n 3), (30, 1, 0, 0, 0, 0, .aload_n 0), (31, 1, 0, 0, 0, 0, .aload_n 0), (32, 3, 7, 13, 3158, 0, .getfield 153), (35, 1, 0, 0, 0, 2, .iconst 2), (36, 1, 0, 0, 0, 0, .idiv), (37, 1, 0, 0, 0, 2, .iconst 2), (38, 1, 0, 0, 0, 0, .aload_n 0), (39, 1, 0, 0, 0, 0, .aload_n 0), (40, 3, 7, 13, 3158, 0, .getfield 153), (43, 3, 143, 7, 4109, 1, .invokevirtual 138)] cs ss L st h) : G Model_welds d mc ms cs ss 29 L st h Q := G.run (by decide +kernel) hw
theorem B_Model_welds_46 {d mc ms cs ss : Nat} {L : List (Option Value)} {st : List Value} {h : g_H} {Q : g_Po} (hw : g_wp Model_welds d mc ms Q 51 [(46, 1, 0, 0, 0, 0, .iadd), (47, 1, 0, 0, 0, 0, .iload_n 3), (48, 3, 118, 7, 4008, 3, .invokevirtual 73)] cs ss L st h) : G Model_welds d mc ms cs ss 46 L st h Q := G.run (by decide +kernel) hw
theorem B_Model_welds_51 {d mc ms cs ss : Nat} {L : List (Option Value)} {st : List Value} {h : g_H} {Q : g_Po} (hw : g_wp Model_welds d mc ms Q 67 [(51, 1, 0, 0, 0, 0, .aload_n 0), (52, 1, 0, 0, 0, 0, .aload_n 0), (53, 3, 7, 14, 3159, 0, .getfield 162), (56, 1, 0, 0, 0, 2, .iconst 2), (57, 1, 0, 0, 0, 0, .idiv), (58, 1, 0, 0, 0, 2, .iconst 2), (59, 1, 0, 0, 0, 0, .aload_n 0), (60, 1, 0, 0, 0, 0, .aload_n 0), (61, 3, 7, 14, 3159, 0, .getfield 162), (64, 3, 143, 7, 4109, 1, .invokevirtual 138)] cs ss L st h) : G Model_welds d mc ms cs ss 51 L st h Q := G.run (by decide +kernel) hw
theorem B_Model_welds_67 {d mc ms cs ss : Nat} {L : List (Option Value)} {st : List Value} {h : g_H} {Q : g_Po} (hw : g_wp Model_welds d mc ms Q 72 [(67, 1, 0, 0, 0, 0, .iadd), (68, 1, 0, 0, 0, 0, .iload_n 3), (69, 3, 118, 7, 4008, 3, .invokevirtual 73)] cs ss L st h) : G Model_welds d mc ms cs ss 67 L st h Q := G.run (by decide +kernel) hw
theorem B_Model_welds_72 {d mc ms cs ss : Nat} {L : List (Option Value)} {st : List Value} {h : g_H} {Q : g_Po} (hw : g_wp Model_welds d mc ms Q 78 [(72, 3, 0, 0, 0, 1, .iinc 2 1), (75, 3, 2, 0, 0, 0, .goto (-73))] cs ss L st h) : G Model_welds d mc ms cs ss 72 L st h Q := G.run (by decide +kernel) hw
theorem B_Model_welds_78 {d mc ms cs ss : Nat} {L : List (Option Value)} {st : List Value} {h : g_H} {Q : g_Po} (hw : g_wp Model_welds d mc ms Q 80 [(78, 1, 0, 0, 0, 0, .iload_n 2), (79, 1, 0, 0, 0, 0, .ireturn)] cs ss L st h) : G Model_welds d mc ms cs ss 78 L st h Q := G.run (by decide +kernel) hw
/-! blocks of Model_isReach -/
theorem ml_Model_isReach : (g_m Model_isReach).2.2.1 = 1 := rfl
theorem rt_Model_isReach : (g_m Model_isReach).2.2.2.1 = (some .boolean) := rfl
theorem B_Model_isReach_0 {d mc ms cs ss : Nat} {L : List (Option Value)} {st : List Value} {h : g_H} {Q : g_Po} (hw : g_wp Model_isReach d mc ms Q 8 [(0, 1, 0, 0, 0, 0, .iload_n 0), (1, 1, 0, 0, 0, 1, .iconst 1), (2, 3, 0, 0, 0, 999, .sipush 999), (5, 3, 108, 0, 3219, 3, .invokestatic 45)] cs ss L st h) : G Model_isReach d mc ms cs ss 0 L st h Q := G.run (by decide +kernel) hw
theorem B_Model_isReach_8 {d mc ms cs ss : Nat} {L : List (Option Value)} {st : List Value} {h : g_H} {Q : g_Po} (hw : g_wp Model_isReach d mc ms Q 9 [(8, 1, 0, 0, 0, 0, .ireturn)] cs ss L st h) : G Model_isReach d mc ms cs ss 8 L st h Q := G.run (by decide +kernel) hw
/-! blocks of Model_weld -/
theorem ml_Model_weld : (g_m Model_weld).2.2.1 = 2 := rfl
theorem rt_Model_weld : (g_m Model_weld).2.2.2.1 = (some .int) := rfl
theorem B_Model_weld_0 {d mc ms cs ss : Nat} {L : List (Option Value)} {st : List Value} {h : g_H} {Q : g_Po} (hw : g_wp Model_weld d mc ms Q 4 [(0, 1, 0, 0, 0, 0, .iload_n 1), (1, 3, 151, 0, 4086, 1, .invokestatic 168)] cs ss L st h) : G Model_weld d mc ms cs ss 0 L st h Q := G.run (by decide +kernel) hw
theorem B_Model_weld_4 {d mc ms cs ss : Nat} {L : List (Option Value)} {st : List Value} {h : g_H} {Q : g_Po} (hw : g_wp Model_weld d mc ms Q 7 [(4, 3, 10, 0, 0, 0, .ifCond .ne 6)] cs ss L st h) : G Model_weld d mc ms cs ss 4 L st h Q := G.run (by decide +kernel) hw
theorem B_Model_weld_7 {d mc ms cs ss : Nat} {L : List (Option Value)} {st : List Value} {h : g_H} {Q : g_Po} (hw : g_wp Model_weld d mc ms Q 10 [(7, 2, 0, 0, 0, (-2), .bipush (-2)), (9, 1, 0, 0, 0, 0, .ireturn)] cs ss L st h) : G Model_weld d mc ms cs ss 7 L st h Q := G.run (by decide +kernel) hw
theorem B_Model_weld_10 {d mc ms cs ss : Nat} {L : List (Option Value)} {st : List Value} {h : g_H} {Q : g_Po} (hw : g_wp Model_weld d mc ms Q 14 [(10, 1, 0, 0, 0, 0, .aload_n 0), (11, 3, 110, 7, 3222, 0, .invokevirtual 81)] cs ss L st h) : G Model_weld d mc ms cs ss 10 L st h Q := G.run (by decide +kernel) hw
theorem B_Model_weld_14 {d mc ms cs ss : Nat} {L : List (Option Value)} {st : List Value} {h : g_H} {Q : g_Po} (hw : g_wp Model_weld d mc ms Q 19 [(14, 1, 0, 0, 0, 0, .aload_n 0), (15, 1, 0, 0, 0, 0, .iload_n 1), (16, 3, 150, 7, 4089, 1, .invokevirtual 171)] cs ss L st h) : G Model_weld d mc ms cs ss 14 L st h Q := G.run (by decide +kernel) hw
theorem B_Model_weld_19 {d mc ms cs ss : Nat} {L : List (Option Value)} {st : List Value} {h : g_H} {Q : g_Po} (hw : g_wp Model_weld d mc ms Q 20 [(19, 1, 0, 0, 0, 0, .ireturn)] cs ss L st h) : G Model_weld d mc ms cs ss 19 L st h Q := G.run (by decide +kernel) hw
theorem I_hlf {e : Nat} (h : e < 1000000) : I (e : Int) / I 2 = I ((e / 2 : Nat) : Int) := by
  rw [I_div (by omega) (by omega), Int.tdiv_eq_ediv_of_nonneg (by omega)]
  congr 1
theorem I_re2 {e : Nat} (h : e < 1000000) : I (e : Int) - I ((e / 2 : Nat) : Int) * I 2 = I ((e % 2 : Nat) : Int) := by
  rw [I_mul, I_sub]
  congr 1
  omega
theorem Mdl_isE_c {d M e : Nat} (d2 : 2 ≤ d) {st : Sta} {r : Nat → Int} {A : Nat → Nat → Int} {h : g_H} {Q : g_Po} (hm : mdl h M r A) (hr : stR (A 1) st) (w : wfD st.1) (he : e < 2 * st.1.length) (hT : (sg st.1 (e / 2)).2 = false → Q (some (.int (I 1))) h) (hF : (sg st.1 (e / 2)).2 = true → Q (some (.int (I 0))) h) : Call Model_isEnd d 0 0 [.ref M, .int (I (e : Int))] h Q := by
  have d1 : 1 ≤ d := by omega
  have w0 := w.1
  refine Call.intro (by rfl) (Nat.le_of_ble_eq_true rfl) ?_
  refine G.eqL (L := [some (.ref _), some (.int _)]) rfl ?_
  refine B_Model_isEnd_0 ?_
  simp only [wp_cons, wp_nil, List.getElem?_cons_zero, List.getElem?_cons_succ, List.set_cons_zero, List.set_cons_succ, s_aload_n0, ldA_r, ldA_n, s_iload_n1, ldI_s, s_iconst, s_idiv, p2_s, ne_k1000, ne_k2, s_invokevirtual, rc_s, ob_s, List.drop_succ_cons, List.drop_zero, List.take_succ_cons, List.take_zero, List.reverse_cons, List.reverse_nil, List.nil_append, List.cons_append, List.length_cons, List.length_nil, d1, Int.reduceToNat, Nat.reduceAdd, Nat.reduceLeDiff, true_and, and_true, Nat.le_refl, true_implies, forall_const, not_false_eq_true, false_implies, not_true_eq_false, reduceCtorEq, tl_s, tl_n, rf_s, true_or, or_true, hm.c, I_hlf (e := e) (by omega)]
  refine Mdl_clo_c (by omega) hm hr w.l (by omega) ?_
  cases z : (sg st.1 (e / 2)).2 with
  | true =>
    rw [show sz true = 1 from rfl]
    refine B_Model_isEnd_7 ?_
    simp only [wp_cons, wp_nil, List.getElem?_cons_zero, List.getElem?_cons_succ, List.set_cons_zero, List.set_cons_succ, s_ifCond_ne, p1_s, true_and, and_true, Nat.le_refl, true_implies, forall_const, not_false_eq_true, false_implies, not_true_eq_false, reduceCtorEq, tl_s, tl_n, rf_s, List.cons_append, List.nil_append, true_or, or_true, hm.c, I_hlf (e := e) (by omega)]
    refine b_ne (by omega) (by omega) (fun cc => ?_) (fun cc => absurd cc (by omega))
    refine B_Model_isEnd_14 ?_
    simp only [wp_cons, wp_nil, List.getElem?_cons_zero, List.getElem?_cons_succ, List.set_cons_zero, List.set_cons_succ, s_iconst, true_and, and_true, Nat.le_refl, true_implies, forall_const, not_false_eq_true, false_implies, not_true_eq_false, reduceCtorEq, tl_s, tl_n, rf_s, List.cons_append, List.nil_append, true_or, or_true, hm.c, I_hlf (e := e) (by omega)]
    refine B_Model_isEnd_15 ?_
    simp only [wp_cons, wp_nil, List.getElem?_cons_zero, List.getElem?_cons_succ, List.set_cons_zero, List.set_cons_succ, s_ireturn, p1_s, rI_i, rI_z, rI_c, z_01, z_11, rt_Model_isEnd, true_and, and_true, Nat.le_refl, true_implies, forall_const, not_false_eq_true, false_implies, not_true_eq_false, reduceCtorEq, tl_s, tl_n, rf_s, List.cons_append, List.nil_append, true_or, or_true, hm.c, I_hlf (e := e) (by omega)]
    exact hF z
  | false =>
    rw [show sz false = 0 from rfl]
    refine B_Model_isEnd_7 ?_
    simp only [wp_cons, wp_nil, List.getElem?_cons_zero, List.getElem?_cons_succ, List.set_cons_zero, List.set_cons_succ, s_ifCond_ne, p1_s, true_and, and_true, Nat.le_refl, true_implies, forall_const, not_false_eq_true, false_implies, not_true_eq_false, reduceCtorEq, tl_s, tl_n, rf_s, List.cons_append, List.nil_append, true_or, or_true, hm.c, I_hlf (e := e) (by omega)]
    refine B_Model_isEnd_10 ?_
    simp only [wp_cons, wp_nil, List.getElem?_cons_zero, List.getElem?_cons_succ, List.set_cons_zero, List.set_cons_succ, s_iconst, s_goto, true_and, and_true, Nat.le_refl, true_implies, forall_const, not_false_eq_true, false_implies, not_true_eq_false, reduceCtorEq, tl_s, tl_n, rf_s, List.cons_append, List.nil_append, true_or, or_true, hm.c, I_hlf (e := e) (by omega)]
    refine B_Model_isEnd_15 ?_
    simp only [wp_cons, wp_nil, List.getElem?_cons_zero, List.getElem?_cons_succ, List.set_cons_zero, List.set_cons_succ, s_ireturn, p1_s, rI_i, rI_z, rI_c, z_01, z_11, rt_Model_isEnd, true_and, and_true, Nat.le_refl, true_implies, forall_const, not_false_eq_true, false_implies, not_true_eq_false, reduceCtorEq, tl_s, tl_n, rf_s, List.cons_append, List.nil_append, true_or, or_true, hm.c, I_hlf (e := e) (by omega)]
    exact hT z
theorem Mdl_eI_c {d M e : Nat} (d2 : 2 ≤ d) {st : Sta} {r : Nat → Int} {A : Nat → Nat → Int} {h : g_H} {Q : g_Po} (hm : mdl h M r A) (hr : stR (A 1) st) (w : wfD st.1) (he : e < 2 * st.1.length) (hQ : Q (some (.int (I (eI st.1 e : Int)))) h) : Call Model_endIndex d 0 0 [.ref M, .int (I (e : Int))] h Q := by
  have d1 : 1 ≤ d := by omega
  have w0 := w.1
  have w1 := (w.2 (e / 2) (by omega)).1
  unfold eI at hQ
  refine Call.intro (by rfl) (Nat.le_of_ble_eq_true rfl) ?_
  refine G.eqL (L := [some (.ref _), some (.int _)]) rfl ?_
  by_cases c : e % 2 = 0
  · rw [if_pos c] at hQ
    refine B_Model_endIndex_0 ?_
    simp only [wp_cons, wp_nil, List.getElem?_cons_zero, List.getElem?_cons_succ, List.set_cons_zero, List.set_cons_succ, s_iload_n1, ldI_s, s_iconst, s_irem, p2_s, ne_k1000, ne_k2, s_ifCond_ne, p1_s, true_and, and_true, Nat.le_refl, true_implies, forall_const, not_false_eq_true, false_implies, not_true_eq_false, reduceCtorEq, tl_s, tl_n, rf_s, List.cons_append, List.nil_append, true_or, or_true, hm.c, I_hlf (e := e) (by omega), I_re2 (e := e) (by omega)]
    refine b_ne (by omega) (by omega) (fun cc => absurd cc (by omega)) (fun cc => ?_)
    refine B_Model_endIndex_6 ?_
    simp only [wp_cons, wp_nil, List.getElem?_cons_zero, List.getElem?_cons_succ, List.set_cons_zero, List.set_cons_succ, s_iconst, s_goto, true_and, and_true, Nat.le_refl, true_implies, forall_const, not_false_eq_true, false_implies, not_true_eq_false, reduceCtorEq, tl_s, tl_n, rf_s, List.cons_append, List.nil_append, true_or, or_true, hm.c, I_hlf (e := e) (by omega), I_re2 (e := e) (by omega)]
    refine B_Model_endIndex_19 ?_
    simp only [wp_cons, wp_nil, List.getElem?_cons_zero, List.getElem?_cons_succ, List.set_cons_zero, List.set_cons_succ, s_ireturn, p1_s, rI_i, rI_z, rI_c, z_01, z_11, rt_Model_endIndex, true_and, and_true, Nat.le_refl, true_implies, forall_const, not_false_eq_true, false_implies, not_true_eq_false, reduceCtorEq, tl_s, tl_n, rf_s, List.cons_append, List.nil_append, true_or, or_true, hm.c, I_hlf (e := e) (by omega), I_re2 (e := e) (by omega)]
    exact hQ
  · rw [if_neg c] at hQ
    refine B_Model_endIndex_0 ?_
    simp only [wp_cons, wp_nil, List.getElem?_cons_zero, List.getElem?_cons_succ, List.set_cons_zero, List.set_cons_succ, s_iload_n1, ldI_s, s_iconst, s_irem, p2_s, ne_k1000, ne_k2, s_ifCond_ne, p1_s, true_and, and_true, Nat.le_refl, true_implies, forall_const, not_false_eq_true, false_implies, not_true_eq_false, reduceCtorEq, tl_s, tl_n, rf_s, List.cons_append, List.nil_append, true_or, or_true, hm.c, I_hlf (e := e) (by omega), I_re2 (e := e) (by omega)]
    refine b_ne (by omega) (by omega) (fun cc => ?_) (fun cc => absurd cc (by omega))
    refine B_Model_endIndex_10 ?_
    simp only [wp_cons, wp_nil, List.getElem?_cons_zero, List.getElem?_cons_succ, List.set_cons_zero, List.set_cons_succ, s_aload_n0, ldA_r, ldA_n, s_iload_n1, ldI_s, s_iconst, s_idiv, p2_s, ne_k1000, ne_k2, s_invokevirtual, rc_s, ob_s, List.drop_succ_cons, List.drop_zero, List.take_succ_cons, List.take_zero, List.reverse_cons, List.reverse_nil, List.nil_append, List.cons_append, List.length_cons, List.length_nil, d1, Int.reduceToNat, Nat.reduceAdd, Nat.reduceLeDiff, true_and, and_true, Nat.le_refl, true_implies, forall_const, not_false_eq_true, false_implies, not_true_eq_false, reduceCtorEq, tl_s, tl_n, rf_s, true_or, or_true, hm.c, I_hlf (e := e) (by omega), I_re2 (e := e) (by omega)]
    refine Mdl_len_c (by omega) hm hr w.l (by omega) ?_
    refine B_Model_endIndex_17 ?_
    simp only [wp_cons, wp_nil, List.getElem?_cons_zero, List.getElem?_cons_succ, List.set_cons_zero, List.set_cons_succ, s_iconst, s_isub, p2_s, I_sub, true_and, and_true, Nat.le_refl, true_implies, forall_const, not_false_eq_true, false_implies, not_true_eq_false, reduceCtorEq, tl_s, tl_n, rf_s, List.cons_append, List.nil_append, true_or, or_true, hm.c, I_hlf (e := e) (by omega), I_re2 (e := e) (by omega)]
    refine B_Model_endIndex_19 ?_
    simp only [wp_cons, wp_nil, List.getElem?_cons_zero, List.getElem?_cons_succ, List.set_cons_zero, List.set_cons_succ, s_ireturn, p1_s, rI_i, rI_z, rI_c, z_01, z_11, rt_Model_endIndex, true_and, and_true, Nat.le_refl, true_implies, forall_const, not_false_eq_true, false_implies, not_true_eq_false, reduceCtorEq, tl_s, tl_n, rf_s, List.cons_append, List.nil_append, true_or, or_true, hm.c, I_hlf (e := e) (by omega), I_re2 (e := e) (by omega)]
    rw [show ((sg st.1 (e / 2)).1.length : Int) - 1 = (((sg st.1 (e / 2)).1.length - 1 : Nat) : Int) by omega]
    exact hQ
theorem Mdl_ep_c {d M e : Nat} (d3 : 3 ≤ d) {st : Sta} {r : Nat → Int} {A : Nat → Nat → Int} {h : g_H} {Q : g_Po} (hm : mdl h M r A) (hr : stR (A 1) st) (w : wfD st.1) (he : e < 2 * st.1.length) (hQ : Q (some (.int (I (ep st.1 e)))) h) : Call Model_endPoint d 0 0 [.ref M, .int (I (e : Int))] h Q := by
  have d1 : 1 ≤ d := by omega
  have w0 := w.1
  have w1 := (w.2 (e / 2) (by omega)).1
  refine Call.intro (by rfl) (Nat.le_of_ble_eq_true rfl) ?_
  refine G.eqL (L := [some (.ref _), some (.int _)]) rfl ?_
  refine B_Model_endPoint_0 ?_
  simp only [wp_cons, wp_nil, List.getElem?_cons_zero, List.getElem?_cons_succ, List.set_cons_zero, List.set_cons_succ, s_aload_n0, ldA_r, ldA_n, s_iload_n1, ldI_s, s_iconst, s_idiv, p2_s, ne_k1000, ne_k2, s_invokevirtual, rc_s, ob_s, List.drop_succ_cons, List.drop_zero, List.take_succ_cons, List.take_zero, List.reverse_cons, List.reverse_nil, List.nil_append, List.cons_append, List.length_cons, List.length_nil, d1, Int.reduceToNat, Nat.reduceAdd, Nat.reduceLeDiff, true_and, and_true, Nat.le_refl, true_implies, forall_const, not_false_eq_true, false_implies, not_true_eq_false, reduceCtorEq, tl_s, tl_n, rf_s, true_or, or_true, hm.c, I_hlf (e := e) (by omega)]
  refine Mdl_eI_c (by omega) hm hr w he ?_
  refine B_Model_endPoint_9 ?_
  simp only [wp_cons, wp_nil, List.getElem?_cons_zero, List.getElem?_cons_succ, List.set_cons_zero, List.set_cons_succ, s_invokevirtual, rc_s, ob_s, List.drop_succ_cons, List.drop_zero, List.take_succ_cons, List.take_zero, List.reverse_cons, List.reverse_nil, List.nil_append, List.cons_append, List.length_cons, List.length_nil, d1, Int.reduceToNat, Nat.reduceAdd, Nat.reduceLeDiff, true_and, and_true, Nat.le_refl, true_implies, forall_const, not_false_eq_true, false_implies, not_true_eq_false, reduceCtorEq, tl_s, tl_n, rf_s, true_or, or_true, hm.c, I_hlf (e := e) (by omega)]
  refine Mdl_pAt_c (by omega) hm hr w.l (by omega) (by unfold eI; split <;> omega) ?_
  refine B_Model_endPoint_12 ?_
  simp only [wp_cons, wp_nil, List.getElem?_cons_zero, List.getElem?_cons_succ, List.set_cons_zero, List.set_cons_succ, s_ireturn, p1_s, rI_i, rI_z, rI_c, z_01, z_11, rt_Model_endPoint, true_and, and_true, Nat.le_refl, true_implies, forall_const, not_false_eq_true, false_implies, not_true_eq_false, reduceCtorEq, tl_s, tl_n, rf_s, List.cons_append, List.nil_append, true_or, or_true, hm.c, I_hlf (e := e) (by omega)]
  exact hQ
theorem Mdl_eb_c {d M e : Nat} (d3 : 3 ≤ d) {st : Sta} {r : Nat → Int} {A : Nat → Nat → Int} {h : g_H} {Q : g_Po} (hm : mdl h M r A) (hr : stR (A 1) st) (w : wfD st.1) (he : e < 2 * st.1.length) (hQ : Q (some (.int (I (eb st.1 e)))) h) : Call Model_beside d 0 0 [.ref M, .int (I (e : Int))] h Q := by
  have d1 : 1 ≤ d := by omega
  have w0 := w.1
  have w1 := (w.2 (e / 2) (by omega)).1
  unfold eb at hQ
  refine Call.intro (by rfl) (Nat.le_of_ble_eq_true rfl) ?_
  refine G.eqL (L := [some (.ref _), some (.int _)]) rfl ?_
  by_cases c : e % 2 = 0
  · rw [if_pos c] at hQ
    refine B_Model_beside_0 ?_
    simp only [wp_cons, wp_nil, List.getElem?_cons_zero, List.getElem?_cons_succ, List.set_cons_zero, List.set_cons_succ, s_aload_n0, ldA_r, ldA_n, s_iload_n1, ldI_s, s_iconst, s_idiv, p2_s, ne_k1000, ne_k2, s_irem, s_ifCond_ne, p1_s, true_and, and_true, Nat.le_refl, true_implies, forall_const, not_false_eq_true, false_implies, not_true_eq_false, reduceCtorEq, tl_s, tl_n, rf_s, List.cons_append, List.nil_append, true_or, or_true, hm.c, I_hlf (e := e) (by omega), I_re2 (e := e) (by omega)]
    refine b_ne (by omega) (by omega) (fun cc => absurd cc (by omega)) (fun cc => ?_)
    refine B_Model_beside_10 ?_
    simp only [wp_cons, wp_nil, List.getElem?_cons_zero, List.getElem?_cons_succ, List.set_cons_zero, List.set_cons_succ, s_iconst, s_goto, true_and, and_true, Nat.le_refl, true_implies, forall_const, not_false_eq_true, false_implies, not_true_eq_false, reduceCtorEq, tl_s, tl_n, rf_s, List.cons_append, List.nil_append, true_or, or_true, hm.c, I_hlf (e := e) (by omega), I_re2 (e := e) (by omega)]
    refine B_Model_beside_23 ?_
    simp only [wp_cons, wp_nil, List.getElem?_cons_zero, List.getElem?_cons_succ, List.set_cons_zero, List.set_cons_succ, s_invokevirtual, rc_s, ob_s, List.drop_succ_cons, List.drop_zero, List.take_succ_cons, List.take_zero, List.reverse_cons, List.reverse_nil, List.nil_append, List.cons_append, List.length_cons, List.length_nil, d1, Int.reduceToNat, Nat.reduceAdd, Nat.reduceLeDiff, true_and, and_true, Nat.le_refl, true_implies, forall_const, not_false_eq_true, false_implies, not_true_eq_false, reduceCtorEq, tl_s, tl_n, rf_s, true_or, or_true, hm.c, I_hlf (e := e) (by omega), I_re2 (e := e) (by omega)]
    refine Mdl_pAt_c (by omega) (k := 1) hm hr w.l (by omega) (by omega) ?_
    refine B_Model_beside_26 ?_
    simp only [wp_cons, wp_nil, List.getElem?_cons_zero, List.getElem?_cons_succ, List.set_cons_zero, List.set_cons_succ, s_ireturn, p1_s, rI_i, rI_z, rI_c, z_01, z_11, rt_Model_beside, true_and, and_true, Nat.le_refl, true_implies, forall_const, not_false_eq_true, false_implies, not_true_eq_false, reduceCtorEq, tl_s, tl_n, rf_s, List.cons_append, List.nil_append, true_or, or_true, hm.c, I_hlf (e := e) (by omega), I_re2 (e := e) (by omega)]
    exact hQ
  · rw [if_neg c] at hQ
    refine B_Model_beside_0 ?_
    simp only [wp_cons, wp_nil, List.getElem?_cons_zero, List.getElem?_cons_succ, List.set_cons_zero, List.set_cons_succ, s_aload_n0, ldA_r, ldA_n, s_iload_n1, ldI_s, s_iconst, s_idiv, p2_s, ne_k1000, ne_k2, s_irem, s_ifCond_ne, p1_s, true_and, and_true, Nat.le_refl, true_implies, forall_const, not_false_eq_true, false_implies, not_true_eq_false, reduceCtorEq, tl_s, tl_n, rf_s, List.cons_append, List.nil_append, true_or, or_true, hm.c, I_hlf (e := e) (by omega), I_re2 (e := e) (by omega)]
    refine b_ne (by omega) (by omega) (fun cc => ?_) (fun cc => absurd cc (by omega))
    refine B_Model_beside_14 ?_
    simp only [wp_cons, wp_nil, List.getElem?_cons_zero, List.getElem?_cons_succ, List.set_cons_zero, List.set_cons_succ, s_aload_n0, ldA_r, ldA_n, s_iload_n1, ldI_s, s_iconst, s_idiv, p2_s, ne_k1000, ne_k2, s_invokevirtual, rc_s, ob_s, List.drop_succ_cons, List.drop_zero, List.take_succ_cons, List.take_zero, List.reverse_cons, List.reverse_nil, List.nil_append, List.cons_append, List.length_cons, List.length_nil, d1, Int.reduceToNat, Nat.reduceAdd, Nat.reduceLeDiff, true_and, and_true, Nat.le_refl, true_implies, forall_const, not_false_eq_true, false_implies, not_true_eq_false, reduceCtorEq, tl_s, tl_n, rf_s, true_or, or_true, hm.c, I_hlf (e := e) (by omega), I_re2 (e := e) (by omega)]
    refine Mdl_len_c (by omega) hm hr w.l (by omega) ?_
    refine B_Model_beside_21 ?_
    simp only [wp_cons, wp_nil, List.getElem?_cons_zero, List.getElem?_cons_succ, List.set_cons_zero, List.set_cons_succ, s_iconst, s_isub, p2_s, I_sub, true_and, and_true, Nat.le_refl, true_implies, forall_const, not_false_eq_true, false_implies, not_true_eq_false, reduceCtorEq, tl_s, tl_n, rf_s, List.cons_append, List.nil_append, true_or, or_true, hm.c, I_hlf (e := e) (by omega), I_re2 (e := e) (by omega)]
    refine B_Model_beside_23 ?_
    simp only [wp_cons, wp_nil, List.getElem?_cons_zero, List.getElem?_cons_succ, List.set_cons_zero, List.set_cons_succ, s_invokevirtual, rc_s, ob_s, List.drop_succ_cons, List.drop_zero, List.take_succ_cons, List.take_zero, List.reverse_cons, List.reverse_nil, List.nil_append, List.cons_append, List.length_cons, List.length_nil, d1, Int.reduceToNat, Nat.reduceAdd, Nat.reduceLeDiff, true_and, and_true, Nat.le_refl, true_implies, forall_const, not_false_eq_true, false_implies, not_true_eq_false, reduceCtorEq, tl_s, tl_n, rf_s, true_or, or_true, hm.c, I_hlf (e := e) (by omega), I_re2 (e := e) (by omega)]
    rw [show ((sg st.1 (e / 2)).1.length : Int) - 2 = (((sg st.1 (e / 2)).1.length - 2 : Nat) : Int) by omega]
    refine Mdl_pAt_c (by omega) hm hr w.l (by omega) (by omega) ?_
    refine B_Model_beside_26 ?_
    simp only [wp_cons, wp_nil, List.getElem?_cons_zero, List.getElem?_cons_succ, List.set_cons_zero, List.set_cons_succ, s_ireturn, p1_s, rI_i, rI_z, rI_c, z_01, z_11, rt_Model_beside, true_and, and_true, Nat.le_refl, true_implies, forall_const, not_false_eq_true, false_implies, not_true_eq_false, reduceCtorEq, tl_s, tl_n, rf_s, List.cons_append, List.nil_append, true_or, or_true, hm.c, I_hlf (e := e) (by omega), I_re2 (e := e) (by omega)]
    exact hQ
theorem Mdl_mid_c {d : Nat} {p q : Int} (d1 : 1 ≤ d) {h : g_H} {Q : g_Po} (hp : pt p) (hq : pt q) (hQ : Q (some (.int (I (mid p q)))) h) : Call Model_middle d 0 0 [.int (I p), .int (I q)] h Q := by
  have e1 : I (p / 1000 + q / 1000) / I 2 = I ((p / 1000 + q / 1000) / 2) := by rw [I_div (by omega) (by omega), Int.tdiv_eq_ediv_of_nonneg (by omega)]
  have e2 : I (p % 1000 + q % 1000) / I 2 = I ((p % 1000 + q % 1000) / 2) := by rw [I_div (by omega) (by omega), Int.tdiv_eq_ediv_of_nonneg (by omega)]
  refine Call.intro (by rfl) (Nat.le_of_ble_eq_true rfl) ?_
  refine G.eqL (L := [some (.int _), some (.int _)]) rfl ?_
  refine B_Model_middle_0 ?_
  simp only [wp_cons, wp_nil, List.getElem?_cons_zero, List.getElem?_cons_succ, List.set_cons_zero, List.set_cons_succ, s_iload_n0, ldI_s, s_invokestatic, rc_s, ob_s, List.drop_succ_cons, List.drop_zero, List.take_succ_cons, List.take_zero, List.reverse_cons, List.reverse_nil, List.nil_append, List.cons_append, List.length_cons, List.length_nil, Nat.reduceEqDiff, reduceIte, p1_s, p2_s, l1_s, d1, Int.reduceToNat, Nat.reduceAdd, Nat.reduceLeDiff, true_and, and_true, Nat.le_refl, true_implies, forall_const, not_false_eq_true, false_implies, not_true_eq_false, reduceCtorEq, tl_s, tl_n, rf_s, true_or, or_true, e1, e2]
  refine Mdl_x_c hp ?_
  refine B_Model_middle_4 ?_
  simp only [wp_cons, wp_nil, List.getElem?_cons_zero, List.getElem?_cons_succ, List.set_cons_zero, List.set_cons_succ, s_iload_n1, ldI_s, s_invokestatic, rc_s, ob_s, List.drop_succ_cons, List.drop_zero, List.take_succ_cons, List.take_zero, List.reverse_cons, List.reverse_nil, List.nil_append, List.cons_append, List.length_cons, List.length_nil, Nat.reduceEqDiff, reduceIte, p1_s, p2_s, l1_s, d1, Int.reduceToNat, Nat.reduceAdd, Nat.reduceLeDiff, true_and, and_true, Nat.le_refl, true_implies, forall_const, not_false_eq_true, false_implies, not_true_eq_false, reduceCtorEq, tl_s, tl_n, rf_s, true_or, or_true, e1, e2]
  refine Mdl_x_c hq ?_
  refine B_Model_middle_8 ?_
  simp only [wp_cons, wp_nil, List.getElem?_cons_zero, List.getElem?_cons_succ, List.set_cons_zero, List.set_cons_succ, s_iadd, p2_s, I_add, s_iconst, s_idiv, ne_k1000, ne_k2, s_iload_n0, ldI_s, s_invokestatic, rc_s, ob_s, List.drop_succ_cons, List.drop_zero, List.take_succ_cons, List.take_zero, List.reverse_cons, List.reverse_nil, List.nil_append, List.cons_append, List.length_cons, List.length_nil, Nat.reduceEqDiff, reduceIte, p1_s, l1_s, d1, Int.reduceToNat, Nat.reduceAdd, Nat.reduceLeDiff, true_and, and_true, Nat.le_refl, true_implies, forall_const, not_false_eq_true, false_implies, not_true_eq_false, reduceCtorEq, tl_s, tl_n, rf_s, true_or, or_true, e1, e2]
  refine Mdl_y_c hp ?_
  refine B_Model_middle_15 ?_
  simp only [wp_cons, wp_nil, List.getElem?_cons_zero, List.getElem?_cons_succ, List.set_cons_zero, List.set_cons_succ, s_iload_n1, ldI_s, s_invokestatic, rc_s, ob_s, List.drop_succ_cons, List.drop_zero, List.take_succ_cons, List.take_zero, List.reverse_cons, List.reverse_nil, List.nil_append, List.cons_append, List.length_cons, List.length_nil, Nat.reduceEqDiff, reduceIte, p1_s, p2_s, l1_s, d1, Int.reduceToNat, Nat.reduceAdd, Nat.reduceLeDiff, true_and, and_true, Nat.le_refl, true_implies, forall_const, not_false_eq_true, false_implies, not_true_eq_false, reduceCtorEq, tl_s, tl_n, rf_s, true_or, or_true, e1, e2]
  refine Mdl_y_c hq ?_
  refine B_Model_middle_19 ?_
  simp only [wp_cons, wp_nil, List.getElem?_cons_zero, List.getElem?_cons_succ, List.set_cons_zero, List.set_cons_succ, s_iadd, p2_s, I_add, s_iconst, s_idiv, ne_k1000, ne_k2, s_invokestatic, rc_s, ob_s, List.drop_succ_cons, List.drop_zero, List.take_succ_cons, List.take_zero, List.reverse_cons, List.reverse_nil, List.nil_append, List.cons_append, List.length_cons, List.length_nil, Nat.reduceEqDiff, reduceIte, p1_s, l1_s, d1, Int.reduceToNat, Nat.reduceAdd, Nat.reduceLeDiff, true_and, and_true, Nat.le_refl, true_implies, forall_const, not_false_eq_true, false_implies, not_true_eq_false, reduceCtorEq, tl_s, tl_n, rf_s, true_or, or_true, e1, e2]
  refine Mdl_pt_c ?_
  refine B_Model_middle_25 ?_
  simp only [wp_cons, wp_nil, List.getElem?_cons_zero, List.getElem?_cons_succ, List.set_cons_zero, List.set_cons_succ, s_ireturn, p1_s, rI_i, rI_z, rI_c, z_01, z_11, rt_Model_middle, true_and, and_true, Nat.le_refl, true_implies, forall_const, not_false_eq_true, false_implies, not_true_eq_false, reduceCtorEq, tl_s, tl_n, rf_s, List.cons_append, List.nil_append, true_or, or_true, e1, e2]
  exact hQ
theorem Mdl_one_c {d M e f : Nat} (d2 : 2 ≤ d) {st : Sta} {r : Nat → Int} {A : Nat → Nat → Int} {h : g_H} {Q : g_Po} (hm : mdl h M r A) (hr : stR (A 1) st) (w : wfD st.1) (he : e < 2 * st.1.length) (hf : f < 2 * st.1.length) (hT : e / 2 ≠ f / 2 ∨ 4 ≤ ez st.1 e → Q (some (.int (I 1))) h) (hF : ¬ (e / 2 ≠ f / 2 ∨ 4 ≤ ez st.1 e) → Q (some (.int (I 0))) h) : Call Model_mayBeOne d 0 0 [.ref M, .int (I (e : Int)), .int (I (f : Int))] h Q := by
  have d1 : 1 ≤ d := by omega
  have w0 := w.1
  have w2 := (w.2 (e / 2) (by omega)).2.1
  unfold ez at hT hF
  refine Call.intro (by rfl) (Nat.le_of_ble_eq_true rfl) ?_
  refine G.eqL (L := [some (.ref _), some (.int _), some (.int _)]) rfl ?_
  by_cases c : e / 2 = f / 2
  · refine B_Model_mayBeOne_0 ?_
    simp only [wp_cons, wp_nil, List.getElem?_cons_zero, List.getElem?_cons_succ, List.set_cons_zero, List.set_cons_succ, s_iload_n1, ldI_s, s_iconst, s_idiv, p2_s, ne_k1000, ne_k2, s_iload_n2, s_if_icmp_ne, true_and, and_true, Nat.le_refl, true_implies, forall_const, not_false_eq_true, false_implies, not_true_eq_false, reduceCtorEq, tl_s, tl_n, rf_s, List.cons_append, List.nil_append, true_or, or_true, hm.c, I_hlf (e := e) (by omega), I_hlf (e := f) (by omega)]
    refine b_ne (by omega) (by omega) (fun cc => absurd cc (by omega)) (fun cc => ?_)
    refine B_Model_mayBeOne_9 ?_
    simp only [wp_cons, wp_nil, List.getElem?_cons_zero, List.getElem?_cons_succ, List.set_cons_zero, List.set_cons_succ, s_aload_n0, ldA_r, ldA_n, s_iload_n1, ldI_s, s_iconst, s_idiv, p2_s, ne_k1000, ne_k2, s_invokevirtual, rc_s, ob_s, List.drop_succ_cons, List.drop_zero, List.take_succ_cons, List.take_zero, List.reverse_cons, List.reverse_nil, List.nil_append, List.cons_append, List.length_cons, List.length_nil, d1, Int.reduceToNat, Nat.reduceAdd, Nat.reduceLeDiff, true_and, and_true, Nat.le_refl, true_implies, forall_const, not_false_eq_true, false_implies, not_true_eq_false, reduceCtorEq, tl_s, tl_n, rf_s, true_or, or_true, hm.c, I_hlf (e := e) (by omega), I_hlf (e := f) (by omega)]
    refine Mdl_len_c (by omega) hm hr w.l (by omega) ?_
    by_cases c2 : 4 ≤ (sg st.1 (e / 2)).1.length
    · refine B_Model_mayBeOne_16 ?_
      simp only [wp_cons, wp_nil, List.getElem?_cons_zero, List.getElem?_cons_succ, List.set_cons_zero, List.set_cons_succ, s_iconst, s_if_icmp_lt, p2_s, true_and, and_true, Nat.le_refl, true_implies, forall_const, not_false_eq_true, false_implies, not_true_eq_false, reduceCtorEq, tl_s, tl_n, rf_s, List.cons_append, List.nil_append, true_or, or_true, hm.c, I_hlf (e := e) (by omega), I_hlf (e := f) (by omega)]
      refine b_lt (by omega) (by omega) (fun cc => absurd cc (by omega)) (fun cc => ?_)
      refine B_Model_mayBeOne_20 ?_
      simp only [wp_cons, wp_nil, List.getElem?_cons_zero, List.getElem?_cons_succ, List.set_cons_zero, List.set_cons_succ, s_iconst, s_goto, true_and, and_true, Nat.le_refl, true_implies, forall_const, not_false_eq_true, false_implies, not_true_eq_false, reduceCtorEq, tl_s, tl_n, rf_s, List.cons_append, List.nil_append, true_or, or_true, hm.c, I_hlf (e := e) (by omega), I_hlf (e := f) (by omega)]
      refine B_Model_mayBeOne_25 ?_
      simp only [wp_cons, wp_nil, List.getElem?_cons_zero, List.getElem?_cons_succ, List.set_cons_zero, List.set_cons_succ, s_ireturn, p1_s, rI_i, rI_z, rI_c, z_01, z_11, rt_Model_mayBeOne, true_and, and_true, Nat.le_refl, true_implies, forall_const, not_false_eq_true, false_implies, not_true_eq_false, reduceCtorEq, tl_s, tl_n, rf_s, List.cons_append, List.nil_append, true_or, or_true, hm.c, I_hlf (e := e) (by omega), I_hlf (e := f) (by omega)]
      exact hT (Or.inr c2)
    · refine B_Model_mayBeOne_16 ?_
      simp only [wp_cons, wp_nil, List.getElem?_cons_zero, List.getElem?_cons_succ, List.set_cons_zero, List.set_cons_succ, s_iconst, s_if_icmp_lt, p2_s, true_and, and_true, Nat.le_refl, true_implies, forall_const, not_false_eq_true, false_implies, not_true_eq_false, reduceCtorEq, tl_s, tl_n, rf_s, List.cons_append, List.nil_append, true_or, or_true, hm.c, I_hlf (e := e) (by omega), I_hlf (e := f) (by omega)]
      refine b_lt (by omega) (by omega) (fun cc => ?_) (fun cc => absurd cc (by omega))
      refine B_Model_mayBeOne_24 ?_
      simp only [wp_cons, wp_nil, List.getElem?_cons_zero, List.getElem?_cons_succ, List.set_cons_zero, List.set_cons_succ, s_iconst, true_and, and_true, Nat.le_refl, true_implies, forall_const, not_false_eq_true, false_implies, not_true_eq_false, reduceCtorEq, tl_s, tl_n, rf_s, List.cons_append, List.nil_append, true_or, or_true, hm.c, I_hlf (e := e) (by omega), I_hlf (e := f) (by omega)]
      refine B_Model_mayBeOne_25 ?_
      simp only [wp_cons, wp_nil, List.getElem?_cons_zero, List.getElem?_cons_succ, List.set_cons_zero, List.set_cons_succ, s_ireturn, p1_s, rI_i, rI_z, rI_c, z_01, z_11, rt_Model_mayBeOne, true_and, and_true, Nat.le_refl, true_implies, forall_const, not_false_eq_true, false_implies, not_true_eq_false, reduceCtorEq, tl_s, tl_n, rf_s, List.cons_append, List.nil_append, true_or, or_true, hm.c, I_hlf (e := e) (by omega), I_hlf (e := f) (by omega)]
      exact hF (fun q => q.elim (fun q => q c) c2)
  · refine B_Model_mayBeOne_0 ?_
    simp only [wp_cons, wp_nil, List.getElem?_cons_zero, List.getElem?_cons_succ, List.set_cons_zero, List.set_cons_succ, s_iload_n1, ldI_s, s_iconst, s_idiv, p2_s, ne_k1000, ne_k2, s_iload_n2, s_if_icmp_ne, true_and, and_true, Nat.le_refl, true_implies, forall_const, not_false_eq_true, false_implies, not_true_eq_false, reduceCtorEq, tl_s, tl_n, rf_s, List.cons_append, List.nil_append, true_or, or_true, hm.c, I_hlf (e := e) (by omega), I_hlf (e := f) (by omega)]
    refine b_ne (by omega) (by omega) (fun cc => ?_) (fun cc => absurd cc (by omega))
    refine B_Model_mayBeOne_20 ?_
    simp only [wp_cons, wp_nil, List.getElem?_cons_zero, List.getElem?_cons_succ, List.set_cons_zero, List.set_cons_succ, s_iconst, s_goto, true_and, and_true, Nat.le_refl, true_implies, forall_const, not_false_eq_true, false_implies, not_true_eq_false, reduceCtorEq, tl_s, tl_n, rf_s, List.cons_append, List.nil_append, true_or, or_true, hm.c, I_hlf (e := e) (by omega), I_hlf (e := f) (by omega)]
    refine B_Model_mayBeOne_25 ?_
    simp only [wp_cons, wp_nil, List.getElem?_cons_zero, List.getElem?_cons_succ, List.set_cons_zero, List.set_cons_succ, s_ireturn, p1_s, rI_i, rI_z, rI_c, z_01, z_11, rt_Model_mayBeOne, true_and, and_true, Nat.le_refl, true_implies, forall_const, not_false_eq_true, false_implies, not_true_eq_false, reduceCtorEq, tl_s, tl_n, rf_s, List.cons_append, List.nil_append, true_or, or_true, hm.c, I_hlf (e := e) (by omega), I_hlf (e := f) (by omega)]
    exact hT (Or.inl c)
theorem Mdl_mw_c {d M e f : Nat} {rr : Int} (d4 : 4 ≤ d) {st : Sta} {r : Nat → Int} {A : Nat → Nat → Int} {h : g_H} {Q : g_Po} (hm : mdl h M r A) (hr : stR (A 1) st) (w : wfD st.1) (he : eo st.1 e) (hf : eo st.1 f) (hef : e < f) (hrr : 1 ≤ rr ∧ rr ≤ 999) (hT : wv rr st.1 e f → Q (some (.int (I 1))) h) (hF : ¬ wv rr st.1 e f → Q (some (.int (I 0))) h) : Call Model_mayWeld d 0 0 [.ref M, .int (I (e : Int)), .int (I (f : Int)), .int (I rr)] h Q := by
  have d1 : 1 ≤ d := by omega
  have p1 := wfD_e w he
  have p2 := wfD_e w hf
  have hD := sqd_bd p1.2.1 p2.2.1
  have hmd := mid_pt p1.2.1 p2.2.1
  have hsq : 1 ≤ rr * rr ∧ rr * rr ≤ 998001 := by
    have h1 := sq_mono (a := 1) (b := rr) (by omega) (by omega)
    have h2 := sq_mono (a := rr) (b := 999) (by omega) (by omega)
    omega
  refine Call.intro (by rfl) (Nat.le_of_ble_eq_true rfl) ?_
  refine G.eqL (L := [some (.ref _), some (.int _), some (.int _), some (.int _), none, none]) rfl ?_
  refine B_Model_mayWeld_0 ?_
  simp only [wp_cons, wp_nil, List.getElem?_cons_zero, List.getElem?_cons_succ, List.set_cons_zero, List.set_cons_succ, s_aload_n0, ldA_r, ldA_n, s_iload_n1, ldI_s, s_invokevirtual, rc_s, ob_s, List.drop_succ_cons, List.drop_zero, List.take_succ_cons, List.take_zero, List.reverse_cons, List.reverse_nil, List.nil_append, List.cons_append, List.length_cons, List.length_nil, d1, Int.reduceToNat, Nat.reduceAdd, Nat.reduceLeDiff, true_and, and_true, Nat.le_refl, true_implies, forall_const, not_false_eq_true, false_implies, not_true_eq_false, reduceCtorEq, tl_s, tl_n, rf_s, true_or, or_true, hm.c]
  refine Mdl_ep_c (by omega) hm hr w he.1 ?_
  refine B_Model_mayWeld_5 ?_
  simp only [wp_cons, wp_nil, List.getElem?_cons_zero, List.getElem?_cons_succ, List.set_cons_zero, List.set_cons_succ, s_aload_n0, ldA_r, ldA_n, s_iload_n2, ldI_s, s_invokevirtual, rc_s, ob_s, List.drop_succ_cons, List.drop_zero, List.take_succ_cons, List.take_zero, List.reverse_cons, List.reverse_nil, List.nil_append, List.cons_append, List.length_cons, List.length_nil, d1, Int.reduceToNat, Nat.reduceAdd, Nat.reduceLeDiff, true_and, and_true, Nat.le_refl, true_implies, forall_const, not_false_eq_true, false_implies, not_true_eq_false, reduceCtorEq, tl_s, tl_n, rf_s, true_or, or_true, hm.c]
  refine Mdl_ep_c (by omega) hm hr w hf.1 ?_
  refine B_Model_mayWeld_10 ?_
  simp only [wp_cons, wp_nil, List.getElem?_cons_zero, List.getElem?_cons_succ, List.set_cons_zero, List.set_cons_succ, s_invokestatic, rc_s, ob_s, List.drop_succ_cons, List.drop_zero, List.take_succ_cons, List.take_zero, List.reverse_cons, List.reverse_nil, List.nil_append, List.cons_append, List.length_cons, List.length_nil, Nat.reduceEqDiff, reduceIte, p1_s, p2_s, l1_s, d1, Int.reduceToNat, Nat.reduceAdd, Nat.reduceLeDiff, true_and, and_true, Nat.le_refl, true_implies, forall_const, not_false_eq_true, false_implies, not_true_eq_false, reduceCtorEq, tl_s, tl_n, rf_s, true_or, or_true, hm.c]
  refine Mdl_sqd_c (by omega) p1.2.1 p2.2.1 ?_
  refine B_Model_mayWeld_13 ?_
  simp only [wp_cons, wp_nil, List.getElem?_cons_zero, List.getElem?_cons_succ, List.set_cons_zero, List.set_cons_succ, s_istore, p1_s, s1_0, s1_s, kx_i, kx_r, kx_n, kx_l, kx_0, s_aload_n0, ldA_r, ldA_n, s_iload_n1, ldI_s, s_invokevirtual, rc_s, ob_s, List.drop_succ_cons, List.drop_zero, List.take_succ_cons, List.take_zero, List.reverse_cons, List.reverse_nil, List.nil_append, List.cons_append, List.length_cons, List.length_nil, d1, Int.reduceToNat, Nat.reduceAdd, Nat.reduceLeDiff, true_and, and_true, Nat.le_refl, true_implies, forall_const, not_false_eq_true, false_implies, not_true_eq_false, reduceCtorEq, tl_s, tl_n, rf_s, true_or, or_true, hm.c]
  refine Mdl_ep_c (by omega) hm hr w he.1 ?_
  refine B_Model_mayWeld_20 ?_
  simp only [wp_cons, wp_nil, List.getElem?_cons_zero, List.getElem?_cons_succ, List.set_cons_zero, List.set_cons_succ, s_aload_n0, ldA_r, ldA_n, s_iload_n2, ldI_s, s_invokevirtual, rc_s, ob_s, List.drop_succ_cons, List.drop_zero, List.take_succ_cons, List.take_zero, List.reverse_cons, List.reverse_nil, List.nil_append, List.cons_append, List.length_cons, List.length_nil, d1, Int.reduceToNat, Nat.reduceAdd, Nat.reduceLeDiff, true_and, and_true, Nat.le_refl, true_implies, forall_const, not_false_eq_true, false_implies, not_true_eq_false, reduceCtorEq, tl_s, tl_n, rf_s, true_or, or_true, hm.c]
  refine Mdl_ep_c (by omega) hm hr w hf.1 ?_
  refine B_Model_mayWeld_25 ?_
  simp only [wp_cons, wp_nil, List.getElem?_cons_zero, List.getElem?_cons_succ, List.set_cons_zero, List.set_cons_succ, s_invokestatic, rc_s, ob_s, List.drop_succ_cons, List.drop_zero, List.take_succ_cons, List.take_zero, List.reverse_cons, List.reverse_nil, List.nil_append, List.cons_append, List.length_cons, List.length_nil, Nat.reduceEqDiff, reduceIte, p1_s, p2_s, l1_s, d1, Int.reduceToNat, Nat.reduceAdd, Nat.reduceLeDiff, true_and, and_true, Nat.le_refl, true_implies, forall_const, not_false_eq_true, false_implies, not_true_eq_false, reduceCtorEq, tl_s, tl_n, rf_s, true_or, or_true, hm.c]
  refine Mdl_mid_c (by omega) p1.2.1 p2.2.1 ?_
  by_cases c1 : 0 < sqd (ep st.1 e) (ep st.1 f)
  · by_cases c2 : sqd (ep st.1 e) (ep st.1 f) ≤ rr * rr
    · refine B_Model_mayWeld_28 ?_
      simp only [wp_cons, wp_nil, List.getElem?_cons_zero, List.getElem?_cons_succ, List.set_cons_zero, List.set_cons_succ, s_istore, p1_s, s1_0, s1_s, kx_i, kx_r, kx_n, kx_l, kx_0, s_iload, ldI_s, s_ifCond_le, true_and, and_true, Nat.le_refl, true_implies, forall_const, not_false_eq_true, false_implies, not_true_eq_false, reduceCtorEq, tl_s, tl_n, rf_s, List.cons_append, List.nil_append, true_or, or_true, hm.c]
      refine b_le (by omega) (by omega) (fun cc => absurd cc (by omega)) (fun cc => ?_)
      refine B_Model_mayWeld_35 ?_
      simp only [wp_cons, wp_nil, List.getElem?_cons_zero, List.getElem?_cons_succ, List.set_cons_zero, List.set_cons_succ, s_iload, ldI_s, s_iload_n3, s_imul, p2_s, I_mul, s_if_icmp_gt, true_and, and_true, Nat.le_refl, true_implies, forall_const, not_false_eq_true, false_implies, not_true_eq_false, reduceCtorEq, tl_s, tl_n, rf_s, List.cons_append, List.nil_append, true_or, or_true, hm.c]
      refine b_lt (by omega) (by omega) (fun cc => absurd cc (by omega)) (fun cc => ?_)
      refine B_Model_mayWeld_43 ?_
      simp only [wp_cons, wp_nil, List.getElem?_cons_zero, List.getElem?_cons_succ, List.set_cons_zero, List.set_cons_succ, s_aload_n0, ldA_r, ldA_n, s_iload_n1, ldI_s, s_iload_n2, s_invokevirtual, rc_s, ob_s, List.drop_succ_cons, List.drop_zero, List.take_succ_cons, List.take_zero, List.reverse_cons, List.reverse_nil, List.nil_append, List.cons_append, List.length_cons, List.length_nil, d1, Int.reduceToNat, Nat.reduceAdd, Nat.reduceLeDiff, true_and, and_true, Nat.le_refl, true_implies, forall_const, not_false_eq_true, false_implies, not_true_eq_false, reduceCtorEq, tl_s, tl_n, rf_s, true_or, or_true, hm.c]
      refine Mdl_one_c (by omega) hm hr w he.1 hf.1 (fun c3 => ?_) (fun c3 => ?_)
      · refine B_Model_mayWeld_49 ?_
        simp only [wp_cons, wp_nil, List.getElem?_cons_zero, List.getElem?_cons_succ, List.set_cons_zero, List.set_cons_succ, s_ifCond_eq, p1_s, true_and, and_true, Nat.le_refl, true_implies, forall_const, not_false_eq_true, false_implies, not_true_eq_false, reduceCtorEq, tl_s, tl_n, rf_s, List.cons_append, List.nil_append, true_or, or_true, hm.c]
        refine b_eq (by omega) (by omega) (fun cc => absurd cc (by omega)) (fun cc => ?_)
        refine B_Model_mayWeld_52 ?_
        simp only [wp_cons, wp_nil, List.getElem?_cons_zero, List.getElem?_cons_succ, List.set_cons_zero, List.set_cons_succ, s_iload, ldI_s, s_aload_n0, ldA_r, ldA_n, s_iload_n1, s_invokevirtual, rc_s, ob_s, List.drop_succ_cons, List.drop_zero, List.take_succ_cons, List.take_zero, List.reverse_cons, List.reverse_nil, List.nil_append, List.cons_append, List.length_cons, List.length_nil, d1, Int.reduceToNat, Nat.reduceAdd, Nat.reduceLeDiff, true_and, and_true, Nat.le_refl, true_implies, forall_const, not_false_eq_true, false_implies, not_true_eq_false, reduceCtorEq, tl_s, tl_n, rf_s, true_or, or_true, hm.c]
        refine Mdl_eb_c (by omega) hm hr w he.1 ?_
        by_cases c4 : mid (ep st.1 e) (ep st.1 f) = eb st.1 e
        · refine B_Model_mayWeld_59 ?_
          simp only [wp_cons, wp_nil, List.getElem?_cons_zero, List.getElem?_cons_succ, List.set_cons_zero, List.set_cons_succ, s_if_icmp_eq, p2_s, true_and, and_true, Nat.le_refl, true_implies, forall_const, not_false_eq_true, false_implies, not_true_eq_false, reduceCtorEq, tl_s, tl_n, rf_s, List.cons_append, List.nil_append, true_or, or_true, hm.c]
          refine b_eq (by omega) (by omega) (fun cc => ?_) (fun cc => absurd cc (by omega))
          refine B_Model_mayWeld_76 ?_
          simp only [wp_cons, wp_nil, List.getElem?_cons_zero, List.getElem?_cons_succ, List.set_cons_zero, List.set_cons_succ, s_iconst, true_and, and_true, Nat.le_refl, true_implies, forall_const, not_false_eq_true, false_implies, not_true_eq_false, reduceCtorEq, tl_s, tl_n, rf_s, List.cons_append, List.nil_append, true_or, or_true, hm.c]
          refine B_Model_mayWeld_77 ?_
          simp only [wp_cons, wp_nil, List.getElem?_cons_zero, List.getElem?_cons_succ, List.set_cons_zero, List.set_cons_succ, s_ireturn, p1_s, rI_i, rI_z, rI_c, z_01, z_11, rt_Model_mayWeld, true_and, and_true, Nat.le_refl, true_implies, forall_const, not_false_eq_true, false_implies, not_true_eq_false, reduceCtorEq, tl_s, tl_n, rf_s, List.cons_append, List.nil_append, true_or, or_true, hm.c]
          exact hF (fun q => q.2.2.2.2.2.2.1 c4)
        · refine B_Model_mayWeld_59 ?_
          simp only [wp_cons, wp_nil, List.getElem?_cons_zero, List.getElem?_cons_succ, List.set_cons_zero, List.set_cons_succ, s_if_icmp_eq, p2_s, true_and, and_true, Nat.le_refl, true_implies, forall_const, not_false_eq_true, false_implies, not_true_eq_false, reduceCtorEq, tl_s, tl_n, rf_s, List.cons_append, List.nil_append, true_or, or_true, hm.c]
          refine b_eq (by omega) (by omega) (fun cc => absurd cc (by omega)) (fun cc => ?_)
          refine B_Model_mayWeld_62 ?_
          simp only [wp_cons, wp_nil, List.getElem?_cons_zero, List.getElem?_cons_succ, List.set_cons_zero, List.set_cons_succ, s_iload, ldI_s, s_aload_n0, ldA_r, ldA_n, s_iload_n2, s_invokevirtual, rc_s, ob_s, List.drop_succ_cons, List.drop_zero, List.take_succ_cons, List.take_zero, List.reverse_cons, List.reverse_nil, List.nil_append, List.cons_append, List.length_cons, List.length_nil, d1, Int.reduceToNat, Nat.reduceAdd, Nat.reduceLeDiff, true_and, and_true, Nat.le_refl, true_implies, forall_const, not_false_eq_true, false_implies, not_true_eq_false, reduceCtorEq, tl_s, tl_n, rf_s, true_or, or_true, hm.c]
          refine Mdl_eb_c (by omega) hm hr w hf.1 ?_
          by_cases c5 : mid (ep st.1 e) (ep st.1 f) = eb st.1 f
          · refine B_Model_mayWeld_69 ?_
            simp only [wp_cons, wp_nil, List.getElem?_cons_zero, List.getElem?_cons_succ, List.set_cons_zero, List.set_cons_succ, s_if_icmp_eq, p2_s, true_and, and_true, Nat.le_refl, true_implies, forall_const, not_false_eq_true, false_implies, not_true_eq_false, reduceCtorEq, tl_s, tl_n, rf_s, List.cons_append, List.nil_append, true_or, or_true, hm.c]
            refine b_eq (by omega) (by omega) (fun cc => ?_) (fun cc => absurd cc (by omega))
            refine B_Model_mayWeld_76 ?_
            simp only [wp_cons, wp_nil, List.getElem?_cons_zero, List.getElem?_cons_succ, List.set_cons_zero, List.set_cons_succ, s_iconst, true_and, and_true, Nat.le_refl, true_implies, forall_const, not_false_eq_true, false_implies, not_true_eq_false, reduceCtorEq, tl_s, tl_n, rf_s, List.cons_append, List.nil_append, true_or, or_true, hm.c]
            refine B_Model_mayWeld_77 ?_
            simp only [wp_cons, wp_nil, List.getElem?_cons_zero, List.getElem?_cons_succ, List.set_cons_zero, List.set_cons_succ, s_ireturn, p1_s, rI_i, rI_z, rI_c, z_01, z_11, rt_Model_mayWeld, true_and, and_true, Nat.le_refl, true_implies, forall_const, not_false_eq_true, false_implies, not_true_eq_false, reduceCtorEq, tl_s, tl_n, rf_s, List.cons_append, List.nil_append, true_or, or_true, hm.c]
            exact hF (fun q => q.2.2.2.2.2.2.2 c5)
          · refine B_Model_mayWeld_69 ?_
            simp only [wp_cons, wp_nil, List.getElem?_cons_zero, List.getElem?_cons_succ, List.set_cons_zero, List.set_cons_succ, s_if_icmp_eq, p2_s, true_and, and_true, Nat.le_refl, true_implies, forall_const, not_false_eq_true, false_implies, not_true_eq_false, reduceCtorEq, tl_s, tl_n, rf_s, List.cons_append, List.nil_append, true_or, or_true, hm.c]
            refine b_eq (by omega) (by omega) (fun cc => absurd cc (by omega)) (fun cc => ?_)
            refine B_Model_mayWeld_72 ?_
            simp only [wp_cons, wp_nil, List.getElem?_cons_zero, List.getElem?_cons_succ, List.set_cons_zero, List.set_cons_succ, s_iconst, s_goto, true_and, and_true, Nat.le_refl, true_implies, forall_const, not_false_eq_true, false_implies, not_true_eq_false, reduceCtorEq, tl_s, tl_n, rf_s, List.cons_append, List.nil_append, true_or, or_true, hm.c]
            refine B_Model_mayWeld_77 ?_
            simp only [wp_cons, wp_nil, List.getElem?_cons_zero, List.getElem?_cons_succ, List.set_cons_zero, List.set_cons_succ, s_ireturn, p1_s, rI_i, rI_z, rI_c, z_01, z_11, rt_Model_mayWeld, true_and, and_true, Nat.le_refl, true_implies, forall_const, not_false_eq_true, false_implies, not_true_eq_false, reduceCtorEq, tl_s, tl_n, rf_s, List.cons_append, List.nil_append, true_or, or_true, hm.c]
            exact hT ⟨hef, he, hf, c1, c2, c3, c4, c5⟩
      · refine B_Model_mayWeld_49 ?_
        simp only [wp_cons, wp_nil, List.getElem?_cons_zero, List.getElem?_cons_succ, List.set_cons_zero, List.set_cons_succ, s_ifCond_eq, p1_s, true_and, and_true, Nat.le_refl, true_implies, forall_const, not_false_eq_true, false_implies, not_true_eq_false, reduceCtorEq, tl_s, tl_n, rf_s, List.cons_append, List.nil_append, true_or, or_true, hm.c]
        refine B_Model_mayWeld_76 ?_
        simp only [wp_cons, wp_nil, List.getElem?_cons_zero, List.getElem?_cons_succ, List.set_cons_zero, List.set_cons_succ, s_iconst, true_and, and_true, Nat.le_refl, true_implies, forall_const, not_false_eq_true, false_implies, not_true_eq_false, reduceCtorEq, tl_s, tl_n, rf_s, List.cons_append, List.nil_append, true_or, or_true, hm.c]
        refine B_Model_mayWeld_77 ?_
        simp only [wp_cons, wp_nil, List.getElem?_cons_zero, List.getElem?_cons_succ, List.set_cons_zero, List.set_cons_succ, s_ireturn, p1_s, rI_i, rI_z, rI_c, z_01, z_11, rt_Model_mayWeld, true_and, and_true, Nat.le_refl, true_implies, forall_const, not_false_eq_true, false_implies, not_true_eq_false, reduceCtorEq, tl_s, tl_n, rf_s, List.cons_append, List.nil_append, true_or, or_true, hm.c]
        exact hF (fun q => c3 q.2.2.2.2.2.1)
    · refine B_Model_mayWeld_28 ?_
      simp only [wp_cons, wp_nil, List.getElem?_cons_zero, List.getElem?_cons_succ, List.set_cons_zero, List.set_cons_succ, s_istore, p1_s, s1_0, s1_s, kx_i, kx_r, kx_n, kx_l, kx_0, s_iload, ldI_s, s_ifCond_le, true_and, and_true, Nat.le_refl, true_implies, forall_const, not_false_eq_true, false_implies, not_true_eq_false, reduceCtorEq, tl_s, tl_n, rf_s, List.cons_append, List.nil_append, true_or, or_true, hm.c]
      refine b_le (by omega) (by omega) (fun cc => absurd cc (by omega)) (fun cc => ?_)
      refine B_Model_mayWeld_35 ?_
      simp only [wp_cons, wp_nil, List.getElem?_cons_zero, List.getElem?_cons_succ, List.set_cons_zero, List.set_cons_succ, s_iload, ldI_s, s_iload_n3, s_imul, p2_s, I_mul, s_if_icmp_gt, true_and, and_true, Nat.le_refl, true_implies, forall_const, not_false_eq_true, false_implies, not_true_eq_false, reduceCtorEq, tl_s, tl_n, rf_s, List.cons_append, List.nil_append, true_or, or_true, hm.c]
      refine b_lt (by omega) (by omega) (fun cc => ?_) (fun cc => absurd cc (by omega))
      refine B_Model_mayWeld_76 ?_
      simp only [wp_cons, wp_nil, List.getElem?_cons_zero, List.getElem?_cons_succ, List.set_cons_zero, List.set_cons_succ, s_iconst, true_and, and_true, Nat.le_refl, true_implies, forall_const, not_false_eq_true, false_implies, not_true_eq_false, reduceCtorEq, tl_s, tl_n, rf_s, List.cons_append, List.nil_append, true_or, or_true, hm.c]
      refine B_Model_mayWeld_77 ?_
      simp only [wp_cons, wp_nil, List.getElem?_cons_zero, List.getElem?_cons_succ, List.set_cons_zero, List.set_cons_succ, s_ireturn, p1_s, rI_i, rI_z, rI_c, z_01, z_11, rt_Model_mayWeld, true_and, and_true, Nat.le_refl, true_implies, forall_const, not_false_eq_true, false_implies, not_true_eq_false, reduceCtorEq, tl_s, tl_n, rf_s, List.cons_append, List.nil_append, true_or, or_true, hm.c]
      exact hF (fun q => c2 q.2.2.2.2.1)
  · refine B_Model_mayWeld_28 ?_
    simp only [wp_cons, wp_nil, List.getElem?_cons_zero, List.getElem?_cons_succ, List.set_cons_zero, List.set_cons_succ, s_istore, p1_s, s1_0, s1_s, kx_i, kx_r, kx_n, kx_l, kx_0, s_iload, ldI_s, s_ifCond_le, true_and, and_true, Nat.le_refl, true_implies, forall_const, not_false_eq_true, false_implies, not_true_eq_false, reduceCtorEq, tl_s, tl_n, rf_s, List.cons_append, List.nil_append, true_or, or_true, hm.c]
    refine b_le (by omega) (by omega) (fun cc => ?_) (fun cc => absurd cc (by omega))
    refine B_Model_mayWeld_76 ?_
    simp only [wp_cons, wp_nil, List.getElem?_cons_zero, List.getElem?_cons_succ, List.set_cons_zero, List.set_cons_succ, s_iconst, true_and, and_true, Nat.le_refl, true_implies, forall_const, not_false_eq_true, false_implies, not_true_eq_false, reduceCtorEq, tl_s, tl_n, rf_s, List.cons_append, List.nil_append, true_or, or_true, hm.c]
    refine B_Model_mayWeld_77 ?_
    simp only [wp_cons, wp_nil, List.getElem?_cons_zero, List.getElem?_cons_succ, List.set_cons_zero, List.set_cons_succ, s_ireturn, p1_s, rI_i, rI_z, rI_c, z_01, z_11, rt_Model_mayWeld, true_and, and_true, Nat.le_refl, true_implies, forall_const, not_false_eq_true, false_implies, not_true_eq_false, reduceCtorEq, tl_s, tl_n, rf_s, List.cons_append, List.nil_append, true_or, or_true, hm.c]
    exact hF (fun q => c1 q.2.2.2.1)
