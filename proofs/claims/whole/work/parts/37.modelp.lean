/-! ===== the reference: the farthest points ===== -/
/-! blocks of Model_farthest -/
theorem ml_Model_farthest : (g_m Model_farthest).2.2.1 = 13 := rfl
theorem rt_Model_farthest : (g_m Model_farthest).2.2.2.1 = (some .int) := rfl
theorem B_Model_farthest_0 {d mc ms cs ss : Nat} {L : List (Option Value)} {st : List Value} {h : g_H} {Q : g_Po} (hw : g_wp Model_farthest d mc ms Q 6 [(0, 1, 0, 0, 0, 0, .aload_n 0), (1, 1, 0, 0, 0, 0, .iload_n 1), (2, 1, 0, 0, 0, 0, .iload_n 2), (3, 3, 121, 7, 4051, 2, .invokevirtual 95)] cs ss L st h) : G Model_farthest d mc ms cs ss 0 L st h Q := G.run (by decide +kernel) hw
theorem B_Model_farthest_6 {d mc ms cs ss : Nat} {L : List (Option Value)} {st : List Value} {h : g_H} {Q : g_Po} (hw : g_wp Model_farthest d mc ms Q 14 [(6, 2, 0, 0, 0, 0, .istore 5), (8, 1, 0, 0, 0, 0, .aload_n 0), (9, 1, 0, 0, 0, 0, .iload_n 1), (10, 1, 0, 0, 0, 0, .iload_n 3), (11, 3, 121, 7, 4051, 2, .invokevirtual 95)] cs ss L st h) : G Model_farthest d mc ms cs ss 6 L st h Q := G.run (by decide +kernel) hw
theorem B_Model_farthest_14 {d mc ms cs ss : Nat} {L : List (Option Value)} {st : List Value} {h : g_H} {Q : g_Po} (hw : g_wp Model_farthest d mc ms Q 28 [(14, 2, 0, 0, 0, 0, .istore 6), (16, 2, 0, 0, 0, (-6), .bipush (-6)), (18, 2, 0, 0, 0, 0, .istore 7), (20, 1, 0, 0, 0, 0, .lconst 0), (21, 2, 0, 0, 0, 0, .lstore 8), (23, 1, 0, 0, 0, 0, .iload_n 2), (24, 1, 0, 0, 0, 1, .iconst 1), (25, 1, 0, 0, 0, 0, .iadd), (26, 2, 0, 0, 0, 0, .istore 10)] cs ss L st h) : G Model_farthest d mc ms cs ss 14 L st h Q := G.run (by decide +kernel) hw
theorem B_Model_farthest_28 {d mc ms cs ss : Nat} {L : List (Option Value)} {st : List Value} {h : g_H} {Q : g_Po} (hw : g_wp Model_farthest d mc ms Q 34 [(28, 2, 0, 0, 0, 0, .iload 10), (30, 1, 0, 0, 0, 0, .iload_n 3), (31, 3, 106, 0, 0, 0, .if_icmp .ge 75)] cs ss L st h) : G Model_farthest d mc ms cs ss 28 L st h Q := G.run (by decide +kernel) hw
theorem B_Model_farthest_34 {d mc ms cs ss : Nat} {L : List (Option Value)} {st : List Value} {h : g_H} {Q : g_Po} (hw : g_wp Model_farthest d mc ms Q 41 [(34, 2, 0, 0, 0, 0, .iload 5), (36, 2, 0, 0, 0, 0, .iload 6), (38, 3, 57, 0, 0, 0, .if_icmp .ne 19)] cs ss L st h) : G Model_farthest d mc ms cs ss 34 L st h Q := G.run (by decide +kernel) hw
theorem B_Model_farthest_41 {d mc ms cs ss : Nat} {L : List (Option Value)} {st : List Value} {h : g_H} {Q : g_Po} (hw : g_wp Model_farthest d mc ms Q 50 [(41, 2, 0, 0, 0, 0, .iload 5), (43, 1, 0, 0, 0, 0, .aload_n 0), (44, 1, 0, 0, 0, 0, .iload_n 1), (45, 2, 0, 0, 0, 0, .iload 10), (47, 3, 121, 7, 4051, 2, .invokevirtual 95)] cs ss L st h) : G Model_farthest d mc ms cs ss 41 L st h Q := G.run (by decide +kernel) hw
theorem B_Model_farthest_50 {d mc ms cs ss : Nat} {L : List (Option Value)} {st : List Value} {h : g_H} {Q : g_Po} (hw : g_wp Model_farthest d mc ms Q 53 [(50, 3, 123, 0, 4055, 2, .invokestatic 98)] cs ss L st h) : G Model_farthest d mc ms cs ss 50 L st h Q := G.run (by decide +kernel) hw
theorem B_Model_farthest_53 {d mc ms cs ss : Nat} {L : List (Option Value)} {st : List Value} {h : g_H} {Q : g_Po} (hw : g_wp Model_farthest d mc ms Q 57 [(53, 1, 0, 0, 0, 0, .i2l), (54, 3, 75, 0, 0, 0, .goto 21)] cs ss L st h) : G Model_farthest d mc ms cs ss 53 L st h Q := G.run (by decide +kernel) hw
theorem B_Model_farthest_57 {d mc ms cs ss : Nat} {L : List (Option Value)} {st : List Value} {h : g_H} {Q : g_Po} (hw : g_wp Model_farthest d mc ms Q 68 [(57, 2, 0, 0, 0, 0, .iload 5), (59, 2, 0, 0, 0, 0, .iload 6), (61, 1, 0, 0, 0, 0, .aload_n 0), (62, 1, 0, 0, 0, 0, .iload_n 1), (63, 2, 0, 0, 0, 0, .iload 10), (65, 3, 121, 7, 4051, 2, .invokevirtual 95)] cs ss L st h) : G Model_farthest d mc ms cs ss 57 L st h Q := G.run (by decide +kernel) hw
theorem B_Model_farthest_68 {d mc ms cs ss : Nat} {L : List (Option Value)} {st : List Value} {h : g_H} {Q : g_Po} (hw : g_wp Model_farthest d mc ms Q 71 [(68, 3, 125, 0, 4072, 3, .invokestatic 101)] cs ss L st h) : G Model_farthest d mc ms cs ss 68 L st h Q := G.run (by decide +kernel) hw
theorem B_Model_farthest_71 {d mc ms cs ss : Nat} {L : List (Option Value)} {st : List Value} {h : g_H} {Q : g_Po} (hw : g_wp Model_farthest d mc ms Q 74 [(71, 3, 124, 0, 4075, 1, .invokestatic 105)] cs ss L st h) : G Model_farthest d mc ms cs ss 71 L st h Q := G.run (by decide +kernel) hw
theorem B_Model_farthest_74 {d mc ms cs ss : Nat} {L : List (Option Value)} {st : List Value} {h : g_H} {Q : g_Po} (hw : g_wp Model_farthest d mc ms Q 75 [(74, 1, 0, 0, 0, 0, .i2l)] cs ss L st h) : G Model_farthest d mc ms cs ss 74 L st h Q := G.run (by decide +kernel) hw
theorem B_Model_farthest_75 {d mc ms cs ss : Nat} {L : List (Option Value)} {st : List Value} {h : g_H} {Q : g_Po} (hw : g_wp Model_farthest d mc ms Q 84 [(75, 2, 0, 0, 0, 0, .lstore 11), (77, 2, 0, 0, 0, 0, .iload 7), (79, 2, 0, 0, 0, (-6), .bipush (-6)), (81, 3, 92, 0, 0, 0, .if_icmp .eq 11)] cs ss L st h) : G Model_farthest d mc ms cs ss 75 L st h Q := G.run (by decide +kernel) hw
theorem B_Model_farthest_84 {d mc ms cs ss : Nat} {L : List (Option Value)} {st : List Value} {h : g_H} {Q : g_Po} (hw : g_wp Model_farthest d mc ms Q 92 [(84, 2, 0, 0, 0, 0, .lload 11), (86, 2, 0, 0, 0, 0, .lload 8), (88, 1, 0, 0, 0, 0, .lcmp), (89, 3, 100, 0, 0, 0, .ifCond .le 11)] cs ss L st h) : G Model_farthest d mc ms cs ss 84 L st h Q := G.run (by decide +kernel) hw
theorem B_Model_farthest_92 {d mc ms cs ss : Nat} {L : List (Option Value)} {st : List Value} {h : g_H} {Q : g_Po} (hw : g_wp Model_farthest d mc ms Q 100 [(92, 2, 0, 0, 0, 0, .iload 10), (94, 2, 0, 0, 0, 0, .istore 7), (96, 2, 0, 0, 0, 0, .lload 11), (98, 2, 0, 0, 0, 0, .lstore 8)] cs ss L st h) : G Model_farthest d mc ms cs ss 92 L st h Q := G.run (by decide +kernel) hw
theorem B_Model_farthest_100 {d mc ms cs ss : Nat} {L : List (Option Value)} {st : List Value} {h : g_H} {Q : g_Po} (hw : g_wp Model_farthest d mc ms Q 106 [(100, 3, 0, 0, 0, 1, .iinc 10 1), (103, 3, 28, 0, 0, 0, .goto (-75))] cs ss L st h) : G Model_farthest d mc ms cs ss 100 L st h Q := G.run (by decide +kernel) hw
theorem B_Model_farthest_106 {d mc ms cs ss : Nat} {L : List (Option Value)} {st : List Value} {h : g_H} {Q : g_Po} (hw : g_wp Model_farthest d mc ms Q 118 [(106, 2, 0, 0, 0, 0, .iload 4), (108, 1, 0, 0, 0, 0, .i2l), (109, 2, 0, 0, 0, 0, .lstore 10), (111, 2, 0, 0, 0, 0, .iload 5), (113, 2, 0, 0, 0, 0, .iload 6), (115, 3, 137, 0, 0, 0, .if_icmp .ne 22)] cs ss L st h) : G Model_farthest d mc ms cs ss 106 L st h Q := G.run (by decide +kernel) hw
theorem B_Model_farthest_118 {d mc ms cs ss : Nat} {L : List (Option Value)} {st : List Value} {h : g_H} {Q : g_Po} (hw : g_wp Model_farthest d mc ms Q 129 [(118, 2, 0, 0, 0, 0, .lload 8), (120, 2, 0, 0, 0, 0, .lload 10), (122, 2, 0, 0, 0, 0, .lload 10), (124, 1, 0, 0, 0, 0, .lmul), (125, 1, 0, 0, 0, 0, .lcmp), (126, 3, 133, 0, 0, 0, .ifCond .le 7)] cs ss L st h) : G Model_farthest d mc ms cs ss 118 L st h Q := G.run (by decide +kernel) hw
theorem B_Model_farthest_129 {d mc ms cs ss : Nat} {L : List (Option Value)} {st : List Value} {h : g_H} {Q : g_Po} (hw : g_wp Model_farthest d mc ms Q 133 [(129, 1, 0, 0, 0, 1, .iconst 1), (130, 3, 165, 0, 0, 0, .goto 35)] cs ss L st h) : G Model_farthest d mc ms cs ss 129 L st h Q := G.run (by decide +kernel) hw
theorem B_Model_farthest_133 {d mc ms cs ss : Nat} {L : List (Option Value)} {st : List Value} {h : g_H} {Q : g_Po} (hw : g_wp Model_farthest d mc ms Q 137 [(133, 1, 0, 0, 0, 0, .iconst 0), (134, 3, 165, 0, 0, 0, .goto 31)] cs ss L st h) : G Model_farthest d mc ms cs ss 133 L st h Q := G.run (by decide +kernel) hw
theorem B_Model_farthest_137 {d mc ms cs ss : Nat} {L : List (Option Value)} {st : List Value} {h : g_H} {Q : g_Po} (hw : g_wp Model_farthest d mc ms Q 154 [(137, 2, 0, 0, 0, 0, .lload 8), (139, 2, 0, 0, 0, 0, .lload 8), (141, 1, 0, 0, 0, 0, .lmul), (142, 2, 0, 0, 0, 0, .lload 10), (144, 2, 0, 0, 0, 0, .lload 10), (146, 1, 0, 0, 0, 0, .lmul), (147, 2, 0, 0, 0, 0, .iload 5), (149, 2, 0, 0, 0, 0, .iload 6), (151, 3, 123, 0, 4055, 2, .invokestatic 98)] cs ss L st h) : G Model_farthest d mc ms cs ss 137 L st h Q := G.run (by decide +kernel) hw
theorem B_Model_farthest_154 {d mc ms cs ss : Nat} {L : List (Option Value)} {st : List Value} {h : g_H} {Q : g_Po} (hw : g_wp Model_farthest d mc ms Q 160 [(154, 1, 0, 0, 0, 0, .i2l), (155, 1, 0, 0, 0, 0, .lmul), (156, 1, 0, 0, 0, 0, .lcmp), (157, 3, 164, 0, 0, 0, .ifCond .le 7)] cs ss L st h) : G Model_farthest d mc ms cs ss 154 L st h Q := G.run (by decide +kernel) hw
theorem B_Model_farthest_160 {d mc ms cs ss : Nat} {L : List (Option Value)} {st : List Value} {h : g_H} {Q : g_Po} (hw : g_wp Model_farthest d mc ms Q 164 [(160, 1, 0, 0, 0, 1, .iconst 1), (161, 3, 165, 0, 0, 0, .goto 4)] cs ss L st h) : G Model_farthest d mc ms cs ss 160 L st h Q := G.run (by decide +kernel) hw
theorem B_Model_farthest_164 {d mc ms cs ss : Nat} {L : List (Option Value)} {st : List Value} {h : g_H} {Q : g_Po} (hw : g_wp Model_farthest d mc ms Q 165 [(164, 1, 0, 0, 0, 0, .iconst 0)] cs ss L st h) : G Model_farthest d mc ms cs ss 164 L st h Q := G.run (by decide +kernel) hw
theorem B_Model_farthest_165 {d mc ms cs ss : Nat} {L : List (Option Value)} {st : List Value} {h : g_H} {Q : g_Po} (hw : g_wp Model_farthest d mc ms Q 172 [(165, 2, 0, 0, 0, 0, .istore 12), (167, 2, 0, 0, 0, 0, .iload 12), (169, 3, 177, 0, 0, 0, .ifCond .eq 8)] cs ss L st h) : G Model_farthest d mc ms cs ss 165 L st h Q := G.run (by decide +kernel) hw
theorem B_Model_farthest_172 {d mc ms cs ss : Nat} {L : List (Option Value)} {st : List Value} {h : g_H} {Q : g_Po} (hw : g_wp Model_farthest d mc ms Q 177 [(172, 2, 0, 0, 0, 0, .iload 7), (174, 3, 179, 0, 0, 0, .goto 5)] cs ss L st h) : G Model_farthest d mc ms cs ss 172 L st h Q := G.run (by decide +kernel) hw
theorem B_Model_farthest_177 {d mc ms cs ss : Nat} {L : List (Option Value)} {st : List Value} {h : g_H} {Q : g_Po} (hw : g_wp Model_farthest d mc ms Q 179 [(177, 2, 0, 0, 0, (-6), .bipush (-6))] cs ss L st h) : G Model_farthest d mc ms cs ss 177 L st h Q := G.run (by decide +kernel) hw
theorem B_Model_farthest_179 {d mc ms cs ss : Nat} {L : List (Option Value)} {st : List Value} {h : g_H} {Q : g_Po} (hw : g_wp Model_farthest d mc ms Q 180 [(179, 1, 0, 0, 0, 0, .ireturn)] cs ss L st h) : G Model_farthest d mc ms cs ss 179 L st h Q := G.run (by decide +kernel) hw
/-! blocks of Model_pushes -/
theorem ml_Model_pushes : (g_m Model_pushes).2.2.1 = 3 := rfl
theorem rt_Model_pushes : (g_m Model_pushes).2.2.2.1 = none := rfl
theorem B_Model_pushes_0 {d mc ms cs ss : Nat} {L : List (Option Value)} {st : List Value} {h : g_H} {Q : g_Po} (hw : g_wp Model_pushes d mc ms Q 31 [(0, 1, 0, 0, 0, 0, .aload_n 0), (1, 3, 7, 8, 3153, 2, .getfield 28), (4, 1, 0, 0, 0, 0, .aload_n 0), (5, 3, 7, 10, 3155, 0, .getfield 108), (8, 1, 0, 0, 0, 0, .iload_n 1), (9, 1, 0, 0, 0, 0, .iastore), (10, 1, 0, 0, 0, 0, .aload_n 0), (11, 3, 7, 9, 3154, 2, .getfield 31), (14, 1, 0, 0, 0, 0, .aload_n 0), (15, 3, 7, 10, 3155, 0, .getfield 108), (18, 1, 0, 0, 0, 0, .iload_n 2), (19, 1, 0, 0, 0, 0, .iastore), (20, 1, 0, 0, 0, 0, .aload_n 0), (21, 1, 0, 0, 0, 0, .dup), (22, 3, 7, 10, 3155, 0, .getfield 108), (25, 1, 0, 0, 0, 1, .iconst 1), (26, 1, 0, 0, 0, 0, .iadd), (27, 3, 7, 10, 3155, 0, .putfield 108), (30, 1, 0, 0, 0, 0, .return_)] cs ss L st h) : G Model_pushes d mc ms cs ss 0 L st h Q := G.run (by decide +kernel) hw
/-! blocks of Model_farFromFirst -/
theorem ml_Model_farFromFirst : (g_m Model_farFromFirst).2.2.1 = 4 := rfl
theorem rt_Model_farFromFirst : (g_m Model_farFromFirst).2.2.2.1 = (some .int) := rfl
theorem B_Model_farFromFirst_0 {d mc ms cs ss : Nat} {L : List (Option Value)} {st : List Value} {h : g_H} {Q : g_Po} (hw : g_wp Model_farFromFirst d mc ms Q 4 [(0, 1, 0, 0, 0, 1, .iconst 1), (1, 1, 0, 0, 0, 0, .istore_n 2), (2, 1, 0, 0, 0, 2, .iconst 2), (3, 1, 0, 0, 0, 0, .istore_n 3)] cs ss L st h) : G Model_farFromFirst d mc ms cs ss 0 L st h Q := G.run (by decide +kernel) hw
theorem B_Model_farFromFirst_4 {d mc ms cs ss : Nat} {L : List (Option Value)} {st : List Value} {h : g_H} {Q : g_Po} (hw : g_wp Model_farFromFirst d mc ms Q 10 [(4, 1, 0, 0, 0, 0, .iload_n 3), (5, 1, 0, 0, 0, 0, .aload_n 0), (6, 1, 0, 0, 0, 0, .iload_n 1), (7, 3, 119, 7, 4047, 1, .invokevirtual 57)] cs ss L st h) : G Model_farFromFirst d mc ms cs ss 4 L st h Q := G.run (by decide +kernel) hw
theorem B_Model_farFromFirst_10 {d mc ms cs ss : Nat} {L : List (Option Value)} {st : List Value} {h : g_H} {Q : g_Po} (hw : g_wp Model_farFromFirst d mc ms Q 13 [(10, 3, 58, 0, 0, 0, .if_icmp .ge 48)] cs ss L st h) : G Model_farFromFirst d mc ms cs ss 10 L st h Q := G.run (by decide +kernel) hw
theorem B_Model_farFromFirst_13 {d mc ms cs ss : Nat} {L : List (Option Value)} {st : List Value} {h : g_H} {Q : g_Po} (hw : g_wp Model_farFromFirst d mc ms Q 19 [(13, 1, 0, 0, 0, 0, .aload_n 0), (14, 1, 0, 0, 0, 0, .iload_n 1), (15, 1, 0, 0, 0, 0, .iconst 0), (16, 3, 121, 7, 4051, 2, .invokevirtual 95)] cs ss L st h) : G Model_farFromFirst d mc ms cs ss 13 L st h Q := G.run (by decide +kernel) hw
theorem B_Model_farFromFirst_19 {d mc ms cs ss : Nat} {L : List (Option Value)} {st : List Value} {h : g_H} {Q : g_Po} (hw : g_wp Model_farFromFirst d mc ms Q 25 [(19, 1, 0, 0, 0, 0, .aload_n 0), (20, 1, 0, 0, 0, 0, .iload_n 1), (21, 1, 0, 0, 0, 0, .iload_n 3), (22, 3, 121, 7, 4051, 2, .invokevirtual 95)] cs ss L st h) : G Model_farFromFirst d mc ms cs ss 19 L st h Q := G.run (by decide +kernel) hw
theorem B_Model_farFromFirst_25 {d mc ms cs ss : Nat} {L : List (Option Value)} {st : List Value} {h : g_H} {Q : g_Po} (hw : g_wp Model_farFromFirst d mc ms Q 28 [(25, 3, 123, 0, 4055, 2, .invokestatic 98)] cs ss L st h) : G Model_farFromFirst d mc ms cs ss 25 L st h Q := G.run (by decide +kernel) hw
theorem B_Model_farFromFirst_28 {d mc ms cs ss : Nat} {L : List (Option Value)} {st : List Value} {h : g_H} {Q : g_Po} (hw : g_wp Model_farFromFirst d mc ms Q 34 [(28, 1, 0, 0, 0, 0, .aload_n 0), (29, 1, 0, 0, 0, 0, .iload_n 1), (30, 1, 0, 0, 0, 0, .iconst 0), (31, 3, 121, 7, 4051, 2, .invokevirtual 95)] cs ss L st h) : G Model_farFromFirst d mc ms cs ss 28 L st h Q := G.run (by decide +kernel) hw
theorem B_Model_farFromFirst_34 {d mc ms cs ss : Nat} {L : List (Option Value)} {st : List Value} {h : g_H} {Q : g_Po} (hw : g_wp Model_farFromFirst d mc ms Q 40 [(34, 1, 0, 0, 0, 0, .aload_n 0), (35, 1, 0, 0, 0, 0, .iload_n 1), (36, 1, 0, 0, 0, 0, .iload_n 2), (37, 3, 121, 7, 4051, 2, .invokevirtual 95)] cs ss L st h) : G Model_farFromFirst d mc ms cs ss 34 L st h Q := G.run (by decide +kernel) hw
theorem B_Model_farFromFirst_40 {d mc ms cs ss : Nat} {L : List (Option Value)} {st : List Value} {h : g_H} {Q : g_Po} (hw : g_wp Model_farFromFirst d mc ms Q 43 [(40, 3, 123, 0, 4055, 2, .invokestatic 98)] cs ss L st h) : G Model_farFromFirst d mc ms cs ss 40 L st h Q := G.run (by decide +kernel) hw
theorem B_Model_farFromFirst_43 {d mc ms cs ss : Nat} {L : List (Option Value)} {st : List Value} {h : g_H} {Q : g_Po} (hw : g_wp Model_farFromFirst d mc ms Q 46 [(43, 3, 50, 0, 0, 0, .if_icmp .le 7)] cs ss L st h) : G Model_farFromFirst d mc ms cs ss 43 L st h Q := G.run (by decide +kernel) hw
theorem B_Model_farFromFirst_46 {d mc ms cs ss : Nat} {L : List (Option Value)} {st : List Value} {h : g_H} {Q : g_Po} (hw : g_wp Model_farFromFirst d mc ms Q 50 [(46, 1, 0, 0, 0, 0, .iload_n 3), (47, 3, 51, 0, 0, 0, .goto 4)] cs ss L st h) : G Model_farFromFirst d mc ms cs ss 46 L st h Q := G.run (by decide +kernel) hw
theorem B_Model_farFromFirst_50 {d mc ms cs ss : Nat} {L : List (Option Value)} {st : List Value} {h : g_H} {Q : g_Po} (hw : g_wp Model_farFromFirst d mc ms Q 51 [(50, 1, 0, 0, 0, 0, .iload_n 2)] cs ss L st h) : G Model_farFromFirst d mc ms cs ss 50 L st h Q := G.run (by decide +kernel) hw
theorem B_Model_farFromFirst_51 {d mc ms cs ss : Nat} {L : List (Option Value)} {st : List Value} {h : g_H} {Q : g_Po} (hw : g_wp Model_farFromFirst d mc ms Q 58 [(51, 1, 0, 0, 0, 0, .istore_n 2), (52, 3, 0, 0, 0, 1, .iinc 3 1), (55, 3, 4, 0, 0, 0, .goto (-51))] cs ss L st h) : G Model_farFromFirst d mc ms cs ss 51 L st h Q := G.run (by decide +kernel) hw
theorem B_Model_farFromFirst_58 {d mc ms cs ss : Nat} {L : List (Option Value)} {st : List Value} {h : g_H} {Q : g_Po} (hw : g_wp Model_farFromFirst d mc ms Q 60 [(58, 1, 0, 0, 0, 0, .iload_n 2), (59, 1, 0, 0, 0, 0, .ireturn)] cs ss L st h) : G Model_farFromFirst d mc ms cs ss 58 L st h Q := G.run (by decide +kernel) hw
/-! blocks of Model_findKept -/
theorem ml_Model_findKept : (g_m Model_findKept).2.2.1 = 6 := rfl
theorem rt_Model_findKept : (g_m Model_findKept).2.2.2.1 = none := rfl
theorem B_Model_findKept_0 {d mc ms cs ss : Nat} {L : List (Option Value)} {st : List Value} {h : g_H} {Q : g_Po} (hw : g_wp Model_findKept d mc ms Q 2 [(0, 1, 0, 0, 0, 0, .iconst 0), (1, 1, 0, 0, 0, 0, .istore_n 3)] cs ss L st h) : G Model_findKept d mc ms cs ss 0 L st h Q := G.run (by decide +kernel) hw
theorem B_Model_findKept_2 {d mc ms cs ss : Nat} {L : List (Option Value)} {st : List Value} {h : g_H} {Q : g_Po} (hw : g_wp Model_findKept d mc ms Q 8 [(2, 1, 0, 0, 0, 0, .iload_n 3), (3, 2, 0, 0, 0, 30, .bipush 30), (5, 3, 21, 0, 0, 0, .if_icmp .gt 16)] cs ss L st h) : G Model_findKept d mc ms cs ss 2 L st h Q := G.run (by decide +kernel) hw
theorem B_Model_findKept_8 {d mc ms cs ss : Nat} {L : List (Option Value)} {st : List Value} {h : g_H} {Q : g_Po} (hw : g_wp Model_findKept d mc ms Q 21 [(8, 1, 0, 0, 0, 0, .aload_n 0), (9, 3, 7, 7, 3152, 2, .getfield 25), (12, 1, 0, 0, 0, 0, .iload_n 3), (13, 1, 0, 0, 0, 0, .iconst 0), (14, 1, 0, 0, 0, 0, .iastore), (15, 3, 0, 0, 0, 1, .iinc 3 1), (18, 3, 2, 0, 0, 0, .goto (-16))] cs ss L st h) : G Model_findKept d mc ms cs ss 8 L st h Q := G.run (by decide +kernel) hw
theorem B_Model_findKept_21 {d mc ms cs ss : Nat} {L : List (Option Value)} {st : List Value} {h : g_H} {Q : g_Po} (hw : g_wp Model_findKept d mc ms Q 38 [(21, 1, 0, 0, 0, 0, .aload_n 0), (22, 3, 7, 7, 3152, 2, .getfield 25), (25, 1, 0, 0, 0, 0, .iconst 0), (26, 1, 0, 0, 0, 1, .iconst 1), (27, 1, 0, 0, 0, 0, .iastore), (28, 1, 0, 0, 0, 0, .aload_n 0), (29, 1, 0, 0, 0, 0, .iconst 0), (30, 3, 7, 10, 3155, 0, .putfield 108), (33, 1, 0, 0, 0, 0, .aload_n 0), (34, 1, 0, 0, 0, 0, .iload_n 1), (35, 3, 120, 7, 4035, 1, .invokevirtual 61)] cs ss L st h) : G Model_findKept d mc ms cs ss 21 L st h Q := G.run (by decide +kernel) hw
theorem B_Model_findKept_38 {d mc ms cs ss : Nat} {L : List (Option Value)} {st : List Value} {h : g_H} {Q : g_Po} (hw : g_wp Model_findKept d mc ms Q 41 [(38, 3, 73, 0, 0, 0, .ifCond .eq 35)] cs ss L st h) : G Model_findKept d mc ms cs ss 38 L st h Q := G.run (by decide +kernel) hw
theorem B_Model_findKept_41 {d mc ms cs ss : Nat} {L : List (Option Value)} {st : List Value} {h : g_H} {Q : g_Po} (hw : g_wp Model_findKept d mc ms Q 46 [(41, 1, 0, 0, 0, 0, .aload_n 0), (42, 1, 0, 0, 0, 0, .iload_n 1), (43, 3, 137, 7, 4043, 1, .invokevirtual 111)] cs ss L st h) : G Model_findKept d mc ms cs ss 41 L st h Q := G.run (by decide +kernel) hw
theorem B_Model_findKept_46 {d mc ms cs ss : Nat} {L : List (Option Value)} {st : List Value} {h : g_H} {Q : g_Po} (hw : g_wp Model_findKept d mc ms Q 60 [(46, 1, 0, 0, 0, 0, .istore_n 3), (47, 1, 0, 0, 0, 0, .aload_n 0), (48, 3, 7, 7, 3152, 2, .getfield 25), (51, 1, 0, 0, 0, 0, .iload_n 3), (52, 1, 0, 0, 0, 1, .iconst 1), (53, 1, 0, 0, 0, 0, .iastore), (54, 1, 0, 0, 0, 0, .aload_n 0), (55, 1, 0, 0, 0, 0, .iconst 0), (56, 1, 0, 0, 0, 0, .iload_n 3), (57, 3, 136, 7, 4064, 2, .invokevirtual 114)] cs ss L st h) : G Model_findKept d mc ms cs ss 46 L st h Q := G.run (by decide +kernel) hw
theorem B_Model_findKept_60 {d mc ms cs ss : Nat} {L : List (Option Value)} {st : List Value} {h : g_H} {Q : g_Po} (hw : g_wp Model_findKept d mc ms Q 67 [(60, 1, 0, 0, 0, 0, .aload_n 0), (61, 1, 0, 0, 0, 0, .iload_n 3), (62, 1, 0, 0, 0, 0, .aload_n 0), (63, 1, 0, 0, 0, 0, .iload_n 1), (64, 3, 119, 7, 4047, 1, .invokevirtual 57)] cs ss L st h) : G Model_findKept d mc ms cs ss 60 L st h Q := G.run (by decide +kernel) hw
theorem B_Model_findKept_67 {d mc ms cs ss : Nat} {L : List (Option Value)} {st : List Value} {h : g_H} {Q : g_Po} (hw : g_wp Model_findKept d mc ms Q 70 [(67, 3, 136, 7, 4064, 2, .invokevirtual 114)] cs ss L st h) : G Model_findKept d mc ms cs ss 67 L st h Q := G.run (by decide +kernel) hw
theorem B_Model_findKept_70 {d mc ms cs ss : Nat} {L : List (Option Value)} {st : List Value} {h : g_H} {Q : g_Po} (hw : g_wp Model_findKept d mc ms Q 73 [(70, 3, 98, 0, 0, 0, .goto 28)] cs ss L st h) : G Model_findKept d mc ms cs ss 70 L st h Q := G.run (by decide +kernel) hw
theorem B_Model_findKept_73 {d mc ms cs ss : Nat} {L : List (Option Value)} {st : List Value} {h : g_H} {Q : g_Po} (hw : g_wp Model_findKept d mc ms Q 82 [(73, 1, 0, 0, 0, 0, .aload_n 0), (74, 3, 7, 7, 3152, 2, .getfield 25), (77, 1, 0, 0, 0, 0, .aload_n 0), (78, 1, 0, 0, 0, 0, .iload_n 1), (79, 3, 119, 7, 4047, 1, .invokevirtual 57)] cs ss L st h) : G Model_findKept d mc ms cs ss 73 L st h Q := G.run (by decide +kernel) hw
theorem B_Model_findKept_82 {d mc ms cs ss : Nat} {L : List (Option Value)} {st : List Value} {h : g_H} {Q : g_Po} (hw : g_wp Model_findKept d mc ms Q 93 [(82, 1, 0, 0, 0, 1, .iconst 1), (83, 1, 0, 0, 0, 0, .isub), (84, 1, 0, 0, 0, 1, .iconst 1), (85, 1, 0, 0, 0, 0, .iastore), (86, 1, 0, 0, 0, 0, .aload_n 0), (87, 1, 0, 0, 0, 0, .iconst 0), (88, 1, 0, 0, 0, 0, .aload_n 0), (89, 1, 0, 0, 0, 0, .iload_n 1), (90, 3, 119, 7, 4047, 1, .invokevirtual 57)] cs ss L st h) : G Model_findKept d mc ms cs ss 82 L st h Q := G.run (by decide +kernel) hw
theorem B_Model_findKept_93 {d mc ms cs ss : Nat} {L : List (Option Value)} {st : List Value} {h : g_H} {Q : g_Po} (hw : g_wp Model_findKept d mc ms Q 98 [(93, 1, 0, 0, 0, 1, .iconst 1), (94, 1, 0, 0, 0, 0, .isub), (95, 3, 136, 7, 4064, 2, .invokevirtual 114)] cs ss L st h) : G Model_findKept d mc ms cs ss 93 L st h Q := G.run (by decide +kernel) hw
theorem B_Model_findKept_98 {d mc ms cs ss : Nat} {L : List (Option Value)} {st : List Value} {h : g_H} {Q : g_Po} (hw : g_wp Model_findKept d mc ms Q 105 [(98, 1, 0, 0, 0, 0, .aload_n 0), (99, 3, 7, 10, 3155, 0, .getfield 108), (102, 3, 180, 0, 0, 0, .ifCond .le 78)] cs ss L st h) : G Model_findKept d mc ms cs ss 98 L st h Q := G.run (by decide +kernel) hw
theorem B_Model_findKept_105 {d mc ms cs ss : Nat} {L : List (Option Value)} {st : List Value} {h : g_H} {Q : g_Po} (hw : g_wp Model_findKept d mc ms Q 145 [(105, 1, 0, 0, 0, 0, .aload_n 0), (106, 1, 0, 0, 0, 0, .dup), (107, 3, 7, 10, 3155, 0, .getfield 108), (110, 1, 0, 0, 0, 1, .iconst 1), (111, 1, 0, 0, 0, 0, .isub), (112, 3, 7, 10, 3155, 0, .putfield 108), (115, 1, 0, 0, 0, 0, .aload_n 0), (116, 3, 7, 8, 3153, 2, .getfield 28), (119, 1, 0, 0, 0, 0, .aload_n 0), (120, 3, 7, 10, 3155, 0, .getfield 108), (123, 1, 0, 0, 0, 0, .iaload), (124, 1, 0, 0, 0, 0, .istore_n 3), (125, 1, 0, 0, 0, 0, .aload_n 0), (126, 3, 7, 9, 3154, 2, .getfield 31), (129, 1, 0, 0, 0, 0, .aload_n 0), (130, 3, 7, 10, 3155, 0, .getfield 108), (133, 1, 0, 0, 0, 0, .iaload), (134, 2, 0, 0, 0, 0, .istore 4), (136, 1, 0, 0, 0, 0, .aload_n 0), (137, 1, 0, 0, 0, 0, .iload_n 1), (138, 1, 0, 0, 0, 0, .iload_n 3), (139, 2, 0, 0, 0, 0, .iload 4), (141, 1, 0, 0, 0, 0, .iload_n 2), (142, 3, 135, 7, 4068, 4, .invokevirtual 118)] cs ss L st h) : G Model_findKept d mc ms cs ss 105 L st h Q := G.run (by decide +kernel) hw
theorem B_Model_findKept_145 {d mc ms cs ss : Nat} {L : List (Option Value)} {st : List Value} {h : g_H} {Q : g_Po} (hw : g_wp Model_findKept d mc ms Q 154 [(145, 2, 0, 0, 0, 0, .istore 5), (147, 2, 0, 0, 0, 0, .iload 5), (149, 2, 0, 0, 0, (-6), .bipush (-6)), (151, 3, 177, 0, 0, 0, .if_icmp .eq 26)] cs ss L st h) : G Model_findKept d mc ms cs ss 145 L st h Q := G.run (by decide +kernel) hw
theorem B_Model_findKept_154 {d mc ms cs ss : Nat} {L : List (Option Value)} {st : List Value} {h : g_H} {Q : g_Po} (hw : g_wp Model_findKept d mc ms Q 169 [(154, 1, 0, 0, 0, 0, .aload_n 0), (155, 3, 7, 7, 3152, 2, .getfield 25), (158, 2, 0, 0, 0, 0, .iload 5), (160, 1, 0, 0, 0, 1, .iconst 1), (161, 1, 0, 0, 0, 0, .iastore), (162, 1, 0, 0, 0, 0, .aload_n 0), (163, 1, 0, 0, 0, 0, .iload_n 3), (164, 2, 0, 0, 0, 0, .iload 5), (166, 3, 136, 7, 4064, 2, .invokevirtual 114)] cs ss L st h) : G Model_findKept d mc ms cs ss 154 L st h Q := G.run (by decide +kernel) hw
theorem B_Model_findKept_169 {d mc ms cs ss : Nat} {L : List (Option Value)} {st : List Value} {h : g_H} {Q : g_Po} (hw : g_wp Model_findKept d mc ms Q 177 [(169, 1, 0, 0, 0, 0, .aload_n 0), (170, 2, 0, 0, 0, 0, .iload 5), (172, 2, 0, 0, 0, 0, .iload 4), (174, 3, 136, 7, 4064, 2, .invokevirtual 114)] cs ss L st h) : G Model_findKept d mc ms cs ss 169 L st h Q := G.run (by decide +kernel) hw
theorem B_Model_findKept_177 {d mc ms cs ss : Nat} {L : List (Option Value)} {st : List Value} {h : g_H} {Q : g_Po} (hw : g_wp Model_findKept d mc ms Q 180 [(177, 3, 98, 0, 0, 0, .goto (-79))] cs ss L st h) : G Model_findKept d mc ms cs ss 177 L st h Q := G.run (by decide +kernel) hw
theorem B_Model_findKept_180 {d mc ms cs ss : Nat} {L : List (Option Value)} {st : List Value} {h : g_H} {Q : g_Po} (hw : g_wp Model_findKept d mc ms Q 181 [(180, 1, 0, 0, 0, 0, .return_)] cs ss L st h) : G Model_findKept d mc ms cs ss 180 L st h Q := G.run (by decide +kernel) hw
/-! blocks of Model_simplifies -/
theorem ml_Model_simplifies : (g_m Model_simplifies).2.2.1 = 5 := rfl
theorem rt_Model_simplifies : (g_m Model_simplifies).2.2.2.1 = none := rfl
theorem B_Model_simplifies_0 {d mc ms cs ss : Nat} {L : List (Option Value)} {st : List Value} {h : g_H} {Q : g_Po} (hw : g_wp Model_simplifies d mc ms Q 6 [(0, 1, 0, 0, 0, 0, .aload_n 0), (1, 1, 0, 0, 0, 0, .iload_n 1), (2, 1, 0, 0, 0, 0, .iload_n 2), (3, 3, 138, 7, 4031, 2, .invokevirtual 122)] cs ss L st h) : G Model_simplifies d mc ms cs ss 0 L st h Q := G.run (by decide +kernel) hw
theorem B_Model_simplifies_6 {d mc ms cs ss : Nat} {L : List (Option Value)} {st : List Value} {h : g_H} {Q : g_Po} (hw : g_wp Model_simplifies d mc ms Q 13 [(6, 1, 0, 0, 0, 0, .aload_n 0), (7, 1, 0, 0, 0, 0, .iconst 0), (8, 3, 7, 12, 3157, 0, .putfield 70), (11, 1, 0, 0, 0, 0, .iconst 0), (12, 1, 0, 0, 0, 0, .istore_n 3)] cs ss L st h) : G Model_simplifies d mc ms cs ss 6 L st h Q := G.run (by decide +kernel) hw
theorem B_Model_simplifies_13 {d mc ms cs ss : Nat} {L : List (Option Value)} {st : List Value} {h : g_H} {Q : g_Po} (hw : g_wp Model_simplifies d mc ms Q 19 [(13, 1, 0, 0, 0, 0, .iload_n 3), (14, 1, 0, 0, 0, 0, .aload_n 0), (15, 1, 0, 0, 0, 0, .iload_n 1), (16, 3, 119, 7, 4047, 1, .invokevirtual 57)] cs ss L st h) : G Model_simplifies d mc ms cs ss 13 L st h Q := G.run (by decide +kernel) hw
theorem B_Model_simplifies_19 {d mc ms cs ss : Nat} {L : List (Option Value)} {st : List Value} {h : g_H} {Q : g_Po} (hw : g_wp Model_simplifies d mc ms Q 22 [(19, 3, 63, 0, 0, 0, .if_icmp .ge 44)] cs ss L st h) : G Model_simplifies d mc ms cs ss 19 L st h Q := G.run (by decide +kernel) hw
theorem B_Model_simplifies_22 {d mc ms cs ss : Nat} {L : List (Option Value)} {st : List Value} {h : g_H} {Q : g_Po} (hw : g_wp Model_simplifies d mc ms Q 32 [(22, 1, 0, 0, 0, 0, .aload_n 0), (23, 3, 7, 7, 3152, 2, .getfield 25), (26, 1, 0, 0, 0, 0, .iload_n 3), (27, 1, 0, 0, 0, 0, .iaload), (28, 1, 0, 0, 0, 1, .iconst 1), (29, 3, 57, 0, 0, 0, .if_icmp .ne 28)] cs ss L st h) : G Model_simplifies d mc ms cs ss 22 L st h Q := G.run (by decide +kernel) hw
theorem B_Model_simplifies_32 {d mc ms cs ss : Nat} {L : List (Option Value)} {st : List Value} {h : g_H} {Q : g_Po} (hw : g_wp Model_simplifies d mc ms Q 46 [(32, 1, 0, 0, 0, 0, .aload_n 0), (33, 3, 7, 11, 3156, 2, .getfield 34), (36, 1, 0, 0, 0, 0, .aload_n 0), (37, 3, 7, 12, 3157, 0, .getfield 70), (40, 1, 0, 0, 0, 0, .aload_n 0), (41, 1, 0, 0, 0, 0, .iload_n 1), (42, 1, 0, 0, 0, 0, .iload_n 3), (43, 3, 121, 7, 4051, 2, .invokevirtual 95)] cs ss L st h) : G Model_simplifies d mc ms cs ss 32 L st h Q := G.run (by decide +kernel) hw
theorem B_Model_simplifies_46 {d mc ms cs ss : Nat} {L : List (Option Value)} {st : List Value} {h : g_H} {Q : g_Po} (hw : g_wp Model_simplifies d mc ms Q 57 [(46, 1, 0, 0, 0, 0, .iastore), (47, 1, 0, 0, 0, 0, .aload_n 0), (48, 1, 0, 0, 0, 0, .dup), (49, 3, 7, 12, 3157, 0, .getfield 70), (52, 1, 0, 0, 0, 1, .iconst 1), (53, 1, 0, 0, 0, 0, .iadd), (54, 3, 7, 12, 3157, 0, .putfield 70)] cs ss L st h) : G Model_simplifies d mc ms cs ss 46 L st h Q := G.run (by decide +kernel) hw
theorem B_Model_simplifies_57 {d mc ms cs ss : Nat} {L : List (Option Value)} {st : List Value} {h : g_H} {Q : g_Po} (hw : g_wp Model_simplifies d mc ms Q 63 [(57, 3, 0, 0, 0, 1, .iinc 3 1), (60, 3, 13, 0, 0, 0, .goto (-47))] cs ss L st h) : G Model_simplifies d mc ms cs ss 57 L st h Q := G.run (by decide +kernel) hw
theorem B_Model_simplifies_63 {d mc ms cs ss : Nat} {L : List (Option Value)} {st : List Value} {h : g_H} {Q : g_Po} (hw : g_wp Model_simplifies d mc ms Q 68 [(63, 1, 0, 0, 0, 0, .aload_n 0), (64, 1, 0, 0, 0, 0, .iload_n 1), (65, 3, 120, 7, 4035, 1, .invokevirtual 61)] cs ss L st h) : G Model_simplifies d mc ms cs ss 63 L st h Q := G.run (by decide +kernel) hw
theorem B_Model_simplifies_68 {d mc ms cs ss : Nat} {L : List (Option Value)} {st : List Value} {h : g_H} {Q : g_Po} (hw : g_wp Model_simplifies d mc ms Q 71 [(68, 3, 99, 0, 0, 0, .ifCond .eq 31)] cs ss L st h) : G Model_simplifies d mc ms cs ss 68 L st h Q := G.run (by decide +kernel) hw
theorem B_Model_simplifies_71 {d mc ms cs ss : Nat} {L : List (Option Value)} {st : List Value} {h : g_H} {Q : g_Po} (hw : g_wp Model_simplifies d mc ms Q 79 [(71, 1, 0, 0, 0, 0, .aload_n 0), (72, 3, 7, 12, 3157, 0, .getfield 70), (75, 1, 0, 0, 0, 3, .iconst 3), (76, 3, 103, 0, 0, 0, .if_icmp .lt 27)] cs ss L st h) : G Model_simplifies d mc ms cs ss 71 L st h Q := G.run (by decide +kernel) hw
theorem B_Model_simplifies_79 {d mc ms cs ss : Nat} {L : List (Option Value)} {st : List Value} {h : g_H} {Q : g_Po} (hw : g_wp Model_simplifies d mc ms Q 99 [(79, 1, 0, 0, 0, 0, .aload_n 0), (80, 3, 7, 11, 3156, 2, .getfield 34), (83, 1, 0, 0, 0, 0, .iconst 0), (84, 1, 0, 0, 0, 0, .iaload), (85, 1, 0, 0, 0, 0, .aload_n 0), (86, 3, 7, 11, 3156, 2, .getfield 34), (89, 1, 0, 0, 0, 0, .aload_n 0), (90, 3, 7, 12, 3157, 0, .getfield 70), (93, 1, 0, 0, 0, 1, .iconst 1), (94, 1, 0, 0, 0, 0, .isub), (95, 1, 0, 0, 0, 0, .iaload), (96, 3, 103, 0, 0, 0, .if_icmp .eq 7)] cs ss L st h) : G Model_simplifies d mc ms cs ss 79 L st h Q := G.run (by decide +kernel) hw
theorem B_Model_simplifies_99 {d mc ms cs ss : Nat} {L : List (Option Value)} {st : List Value} {h : g_H} {Q : g_Po} (hw : g_wp Model_simplifies d mc ms Q 103 [(99, 1, 0, 0, 0, 1, .iconst 1), (100, 3, 104, 0, 0, 0, .goto 4)] cs ss L st h) : G Model_simplifies d mc ms cs ss 99 L st h Q := G.run (by decide +kernel) hw
theorem B_Model_simplifies_103 {d mc ms cs ss : Nat} {L : List (Option Value)} {st : List Value} {h : g_H} {Q : g_Po} (hw : g_wp Model_simplifies d mc ms Q 104 [(103, 1, 0, 0, 0, 0, .iconst 0)] cs ss L st h) : G Model_simplifies d mc ms cs ss 103 L st h Q := G.run (by decide +kernel) hw
theorem B_Model_simplifies_104 {d mc ms cs ss : Nat} {L : List (Option Value)} {st : List Value} {h : g_H} {Q : g_Po} (hw : g_wp Model_simplifies d mc ms Q 108 [(104, 1, 0, 0, 0, 0, .istore_n 3), (105, 1, 0, 0, 0, 1, .iconst 1), (106, 2, 0, 0, 0, 0, .istore 4)] cs ss L st h) : G Model_simplifies d mc ms cs ss 104 L st h Q := G.run (by decide +kernel) hw
theorem B_Model_simplifies_108 {d mc ms cs ss : Nat} {L : List (Option Value)} {st : List Value} {h : g_H} {Q : g_Po} (hw : g_wp Model_simplifies d mc ms Q 117 [(108, 2, 0, 0, 0, 0, .iload 4), (110, 1, 0, 0, 0, 0, .aload_n 0), (111, 3, 7, 12, 3157, 0, .getfield 70), (114, 3, 152, 0, 0, 0, .if_icmp .ge 38)] cs ss L st h) : G Model_simplifies d mc ms cs ss 108 L st h Q := G.run (by decide +kernel) hw
theorem B_Model_simplifies_117 {d mc ms cs ss : Nat} {L : List (Option Value)} {st : List Value} {h : g_H} {Q : g_Po} (hw : g_wp Model_simplifies d mc ms Q 121 [(117, 1, 0, 0, 0, 0, .iload_n 3), (118, 3, 144, 0, 0, 0, .ifCond .eq 26)] cs ss L st h) : G Model_simplifies d mc ms cs ss 117 L st h Q := G.run (by decide +kernel) hw
theorem B_Model_simplifies_121 {d mc ms cs ss : Nat} {L : List (Option Value)} {st : List Value} {h : g_H} {Q : g_Po} (hw : g_wp Model_simplifies d mc ms Q 140 [(121, 1, 0, 0, 0, 0, .aload_n 0), (122, 3, 7, 11, 3156, 2, .getfield 34), (125, 2, 0, 0, 0, 0, .iload 4), (127, 1, 0, 0, 0, 0, .iaload), (128, 1, 0, 0, 0, 0, .aload_n 0), (129, 3, 7, 11, 3156, 2, .getfield 34), (132, 2, 0, 0, 0, 0, .iload 4), (134, 1, 0, 0, 0, 1, .iconst 1), (135, 1, 0, 0, 0, 0, .isub), (136, 1, 0, 0, 0, 0, .iaload), (137, 3, 144, 0, 0, 0, .if_icmp .eq 7)] cs ss L st h) : G Model_simplifies d mc ms cs ss 121 L st h Q := G.run (by decide +kernel) hw
theorem B_Model_simplifies_140 {d mc ms cs ss : Nat} {L : List (Option Value)} {st : List Value} {h : g_H} {Q : g_Po} (hw : g_wp Model_simplifies d mc ms Q 144 [(140, 1, 0, 0, 0, 1, .iconst 1), (141, 3, 145, 0, 0, 0, .goto 4)] cs ss L st h) : G Model_simplifies d mc ms cs ss 140 L st h Q := G.run (by decide +kernel) hw
theorem B_Model_simplifies_144 {d mc ms cs ss : Nat} {L : List (Option Value)} {st : List Value} {h : g_H} {Q : g_Po} (hw : g_wp Model_simplifies d mc ms Q 145 [(144, 1, 0, 0, 0, 0, .iconst 0)] cs ss L st h) : G Model_simplifies d mc ms cs ss 144 L st h Q := G.run (by decide +kernel) hw
theorem B_Model_simplifies_145 {d mc ms cs ss : Nat} {L : List (Option Value)} {st : List Value} {h : g_H} {Q : g_Po} (hw : g_wp Model_simplifies d mc ms Q 152 [(145, 1, 0, 0, 0, 0, .istore_n 3), (146, 3, 0, 0, 0, 1, .iinc 4 1), (149, 3, 108, 0, 0, 0, .goto (-41))] cs ss L st h) : G Model_simplifies d mc ms cs ss 145 L st h Q := G.run (by decide +kernel) hw
theorem B_Model_simplifies_152 {d mc ms cs ss : Nat} {L : List (Option Value)} {st : List Value} {h : g_H} {Q : g_Po} (hw : g_wp Model_simplifies d mc ms Q 156 [(152, 1, 0, 0, 0, 0, .iload_n 3), (153, 3, 173, 0, 0, 0, .ifCond .ne 20)] cs ss L st h) : G Model_simplifies d mc ms cs ss 152 L st h Q := G.run (by decide +kernel) hw
theorem B_Model_simplifies_156 {d mc ms cs ss : Nat} {L : List (Option Value)} {st : List Value} {h : g_H} {Q : g_Po} (hw : g_wp Model_simplifies d mc ms Q 170 [(156, 1, 0, 0, 0, 0, .aload_n 0), (157, 1, 0, 0, 0, 0, .iconst 0), (158, 3, 7, 12, 3157, 0, .putfield 70), (161, 1, 0, 0, 0, 0, .aload_n 0), (162, 1, 0, 0, 0, 0, .iload_n 1), (163, 1, 0, 0, 0, 0, .iconst 0), (164, 1, 0, 0, 0, 1, .iconst 1), (165, 1, 0, 0, 0, 0, .aload_n 0), (166, 1, 0, 0, 0, 0, .iload_n 1), (167, 3, 119, 7, 4047, 1, .invokevirtual 57)] cs ss L st h) : G Model_simplifies d mc ms cs ss 156 L st h Q := G.run (by decide +kernel) hw
theorem B_Model_simplifies_170 {d mc ms cs ss : Nat} {L : List (Option Value)} {st : List Value} {h : g_H} {Q : g_Po} (hw : g_wp Model_simplifies d mc ms Q 173 [(170, 3, 128, 7, 4078, 4, .invokevirtual 125)] cs ss L st h) : G Model_simplifies d mc ms cs ss 170 L st h Q := G.run (by decide +kernel) hw
theorem B_Model_simplifies_173 {d mc ms cs ss : Nat} {L : List (Option Value)} {st : List Value} {h : g_H} {Q : g_Po} (hw : g_wp Model_simplifies d mc ms Q 174 [(173, 1, 0, 0, 0, 0, .return_)] cs ss L st h) : G Model_simplifies d mc ms cs ss 173 L st h Q := G.run (by decide +kernel) hw
/-! blocks of Model_isTolerance -/
theorem ml_Model_isTolerance : (g_m Model_isTolerance).2.2.1 = 1 := rfl
theorem rt_Model_isTolerance : (g_m Model_isTolerance).2.2.2.1 = (some .boolean) := rfl
theorem B_Model_isTolerance_0 {d mc ms cs ss : Nat} {L : List (Option Value)} {st : List Value} {h : g_H} {Q : g_Po} (hw : g_wp Model_isTolerance d mc ms Q 8 [(0, 1, 0, 0, 0, 0, .iload_n 0), (1, 1, 0, 0, 0, 0, .iconst 0), (2, 3, 0, 0, 0, 200, .sipush 200), (5, 3, 108, 0, 3219, 3, .invokestatic 45)] cs ss L st h) : G Model_isTolerance d mc ms cs ss 0 L st h Q := G.run (by decide +kernel) hw
theorem B_Model_isTolerance_8 {d mc ms cs ss : Nat} {L : List (Option Value)} {st : List Value} {h : g_H} {Q : g_Po} (hw : g_wp Model_isTolerance d mc ms Q 9 [(8, 1, 0, 0, 0, 0, .ireturn)] cs ss L st h) : G Model_isTolerance d mc ms cs ss 8 L st h Q := G.run (by decide +kernel) hw
/-! blocks of Model_simplify -/
theorem ml_Model_simplify : (g_m Model_simplify).2.2.1 = 3 := rfl
theorem rt_Model_simplify : (g_m Model_simplify).2.2.2.1 = (some .int) := rfl
theorem B_Model_simplify_0 {d mc ms cs ss : Nat} {L : List (Option Value)} {st : List Value} {h : g_H} {Q : g_Po} (hw : g_wp Model_simplify d mc ms Q 5 [(0, 1, 0, 0, 0, 0, .aload_n 0), (1, 1, 0, 0, 0, 0, .iload_n 1), (2, 3, 116, 7, 4020, 1, .invokevirtual 129)] cs ss L st h) : G Model_simplify d mc ms cs ss 0 L st h Q := G.run (by decide +kernel) hw
theorem B_Model_simplify_5 {d mc ms cs ss : Nat} {L : List (Option Value)} {st : List Value} {h : g_H} {Q : g_Po} (hw : g_wp Model_simplify d mc ms Q 8 [(5, 3, 10, 0, 0, 0, .ifCond .ne 5)] cs ss L st h) : G Model_simplify d mc ms cs ss 5 L st h Q := G.run (by decide +kernel) hw
theorem B_Model_simplify_8 {d mc ms cs ss : Nat} {L : List (Option Value)} {st : List Value} {h : g_H} {Q : g_Po} (hw : g_wp Model_simplify d mc ms Q 10 [(8, 1, 0, 0, 0, (-1), .iconst (-1)), (9, 1, 0, 0, 0, 0, .ireturn)] cs ss L st h) : G Model_simplify d mc ms cs ss 8 L st h Q := G.run (by decide +kernel) hw
theorem B_Model_simplify_10 {d mc ms cs ss : Nat} {L : List (Option Value)} {st : List Value} {h : g_H} {Q : g_Po} (hw : g_wp Model_simplify d mc ms Q 14 [(10, 1, 0, 0, 0, 0, .iload_n 2), (11, 3, 140, 0, 4024, 1, .invokestatic 132)] cs ss L st h) : G Model_simplify d mc ms cs ss 10 L st h Q := G.run (by decide +kernel) hw
theorem B_Model_simplify_14 {d mc ms cs ss : Nat} {L : List (Option Value)} {st : List Value} {h : g_H} {Q : g_Po} (hw : g_wp Model_simplify d mc ms Q 17 [(14, 3, 20, 0, 0, 0, .ifCond .ne 6)] cs ss L st h) : G Model_simplify d mc ms cs ss 14 L st h Q := G.run (by decide +kernel) hw
theorem B_Model_simplify_17 {d mc ms cs ss : Nat} {L : List (Option Value)} {st : List Value} {h : g_H} {Q : g_Po} (hw : g_wp Model_simplify d mc ms Q 20 [(17, 2, 0, 0, 0, (-2), .bipush (-2)), (19, 1, 0, 0, 0, 0, .ireturn)] cs ss L st h) : G Model_simplify d mc ms cs ss 17 L st h Q := G.run (by decide +kernel) hw
theorem B_Model_simplify_20 {d mc ms cs ss : Nat} {L : List (Option Value)} {st : List Value} {h : g_H} {Q : g_Po} (hw : g_wp Model_simplify d mc ms Q 24 [(20, 1, 0, 0, 0, 0, .aload_n 0), (21, 3, 110, 7, 3222, 0, .invokevirtual 81)] cs ss L st h) : G Model_simplify d mc ms cs ss 20 L st h Q := G.run (by decide +kernel) hw
theorem B_Model_simplify_24 {d mc ms cs ss : Nat} {L : List (Option Value)} {st : List Value} {h : g_H} {Q : g_Po} (hw : g_wp Model_simplify d mc ms Q 30 [(24, 1, 0, 0, 0, 0, .aload_n 0), (25, 1, 0, 0, 0, 0, .iload_n 1), (26, 1, 0, 0, 0, 0, .iload_n 2), (27, 3, 139, 7, 4027, 2, .invokevirtual 135)] cs ss L st h) : G Model_simplify d mc ms cs ss 24 L st h Q := G.run (by decide +kernel) hw
theorem B_Model_simplify_30 {d mc ms cs ss : Nat} {L : List (Option Value)} {st : List Value} {h : g_H} {Q : g_Po} (hw : g_wp Model_simplify d mc ms Q 37 [(30, 1, 0, 0, 0, 0, .aload_n 0), (31, 1, 0, 0, 0, 0, .iload_n 1), (32, 1, 0, 0, 0, 0, .aload_n 0), (33, 1, 0, 0, 0, 0, .iload_n 1), (34, 3, 120, 7, 4035, 1, .invokevirtual 61)] cs ss L st h) : G Model_simplify d mc ms cs ss 30 L st h Q := G.run (by decide +kernel) hw
theorem B_Model_simplify_37 {d mc ms cs ss : Nat} {L : List (Option Value)} {st : List Value} {h : g_H} {Q : g_Po} (hw : g_wp Model_simplify d mc ms Q 40 [(37, 3, 127, 7, 4004, 2, .invokevirtual 87)] cs ss L st h) : G Model_simplify d mc ms cs ss 37 L st h Q := G.run (by decide +kernel) hw
theorem B_Model_simplify_40 {d mc ms cs ss : Nat} {L : List (Option Value)} {st : List Value} {h : g_H} {Q : g_Po} (hw : g_wp Model_simplify d mc ms Q 45 [(40, 1, 0, 0, 0, 0, .aload_n 0), (41, 1, 0, 0, 0, 0, .iload_n 1), (42, 3, 119, 7, 4047, 1, .invokevirtual 57)] cs ss L st h) : G Model_simplify d mc ms cs ss 40 L st h Q := G.run (by decide +kernel) hw
theorem B_Model_simplify_45 {d mc ms cs ss : Nat} {L : List (Option Value)} {st : List Value} {h : g_H} {Q : g_Po} (hw : g_wp Model_simplify d mc ms Q 46 [(45, 1, 0, 0, 0, 0, .ireturn)] cs ss L st h) : G Model_simplify d mc ms cs ss 45 L st h Q := G.run (by decide +kernel) hw
/-! blocks of Model_ifSimplified -/
theorem ml_Model_ifSimplified : (g_m Model_ifSimplified).2.2.1 = 3 := rfl
theorem rt_Model_ifSimplified : (g_m Model_ifSimplified).2.2.2.1 = (some .int) := rfl
theorem B_Model_ifSimplified_0 {d mc ms cs ss : Nat} {L : List (Option Value)} {st : List Value} {h : g_H} {Q : g_Po} (hw : g_wp Model_ifSimplified d mc ms Q 5 [(0, 1, 0, 0, 0, 0, .aload_n 0), (1, 1, 0, 0, 0, 0, .iload_n 1), (2, 3, 116, 7, 4020, 1, .invokevirtual 129)] cs ss L st h) : G Model_ifSimplified d mc ms cs ss 0 L st h Q := G.run (by decide +kernel) hw
theorem B_Model_ifSimplified_5 {d mc ms cs ss : Nat} {L : List (Option Value)} {st : List Value} {h : g_H} {Q : g_Po} (hw : g_wp Model_ifSimplified d mc ms Q 8 [(5, 3, 10, 0, 0, 0, .ifCond .ne 5)] cs ss L st h) : G Model_ifSimplified d mc ms cs ss 5 L st h Q := G.run (by decide +kernel) hw
theorem B_Model_ifSimplified_8 {d mc ms cs ss : Nat} {L : List (Option Value)} {st : List Value} {h : g_H} {Q : g_Po} (hw : g_wp Model_ifSimplified d mc ms Q 10 [(8, 1, 0, 0, 0, (-1), .iconst (-1)), (9, 1, 0, 0, 0, 0, .ireturn)] cs ss L st h) : G Model_ifSimplified d mc ms cs ss 8 L st h Q := G.run (by decide +kernel) hw
theorem B_Model_ifSimplified_10 {d mc ms cs ss : Nat} {L : List (Option Value)} {st : List Value} {h : g_H} {Q : g_Po} (hw : g_wp Model_ifSimplified d mc ms Q 14 [(10, 1, 0, 0, 0, 0, .iload_n 2), (11, 3, 140, 0, 4024, 1, .invokestatic 132)] cs ss L st h) : G Model_ifSimplified d mc ms cs ss 10 L st h Q := G.run (by decide +kernel) hw
theorem B_Model_ifSimplified_14 {d mc ms cs ss : Nat} {L : List (Option Value)} {st : List Value} {h : g_H} {Q : g_Po} (hw : g_wp Model_ifSimplified d mc ms Q 17 [(14, 3, 20, 0, 0, 0, .ifCond .ne 6)] cs ss L st h) : G Model_ifSimplified d mc ms cs ss 14 L st h Q := G.run (by decide +kernel) hw
theorem B_Model_ifSimplified_17 {d mc ms cs ss : Nat} {L : List (Option Value)} {st : List Value} {h : g_H} {Q : g_Po} (hw : g_wp Model_ifSimplified d mc ms Q 20 [(17, 2, 0, 0, 0, (-2), .bipush (-2)), (19, 1, 0, 0, 0, 0, .ireturn)] cs ss L st h) : G Model_ifSimplified d mc ms cs ss 17 L st h Q := G.run (by decide +kernel) hw
theorem B_Model_ifSimplified_20 {d mc ms cs ss : Nat} {L : List (Option Value)} {st : List Value} {h : g_H} {Q : g_Po} (hw : g_wp Model_ifSimplified d mc ms Q 26 [(20, 1, 0, 0, 0, 0, .aload_n 0), (21, 1, 0, 0, 0, 0, .iload_n 1), (22, 1, 0, 0, 0, 0, .iload_n 2), (23, 3, 139, 7, 4027, 2, .invokevirtual 135)] cs ss L st h) : G Model_ifSimplified d mc ms cs ss 20 L st h Q := G.run (by decide +kernel) hw
theorem B_Model_ifSimplified_26 {d mc ms cs ss : Nat} {L : List (Option Value)} {st : List Value} {h : g_H} {Q : g_Po} (hw : g_wp Model_ifSimplified d mc ms Q 31 [(26, 1, 0, 0, 0, 0, .aload_n 0), (27, 3, 7, 12, 3157, 0, .getfield 70), (30, 1, 0, 0, 0, 0, .ireturn)] cs ss L st h) : G Model_ifSimplified d mc ms cs ss 26 L st h Q := G.run (by decide +kernel) hw
/-! blocks of Model_toleranceFor -/
theorem ml_Model_toleranceFor : (g_m Model_toleranceFor).2.2.1 = 4 := rfl
theorem rt_Model_toleranceFor : (g_m Model_toleranceFor).2.2.2.1 = (some .int) := rfl
theorem B_Model_toleranceFor_0 {d mc ms cs ss : Nat} {L : List (Option Value)} {st : List Value} {h : g_H} {Q : g_Po} (hw : g_wp Model_toleranceFor d mc ms Q 5 [(0, 1, 0, 0, 0, 0, .aload_n 0), (1, 1, 0, 0, 0, 0, .iload_n 1), (2, 3, 116, 7, 4020, 1, .invokevirtual 129)] cs ss L st h) : G Model_toleranceFor d mc ms cs ss 0 L st h Q := G.run (by decide +kernel) hw
theorem B_Model_toleranceFor_5 {d mc ms cs ss : Nat} {L : List (Option Value)} {st : List Value} {h : g_H} {Q : g_Po} (hw : g_wp Model_toleranceFor d mc ms Q 8 [(5, 3, 10, 0, 0, 0, .ifCond .ne 5)] cs ss L st h) : G Model_toleranceFor d mc ms cs ss 5 L st h Q := G.run (by decide +kernel) hw
theorem B_Model_toleranceFor_8 {d mc ms cs ss : Nat} {L : List (Option Value)} {st : List Value} {h : g_H} {Q : g_Po} (hw : g_wp Model_toleranceFor d mc ms Q 10 [(8, 1, 0, 0, 0, (-1), .iconst (-1)), (9, 1, 0, 0, 0, 0, .ireturn)] cs ss L st h) : G Model_toleranceFor d mc ms cs ss 8 L st h Q := G.run (by decide +kernel) hw
theorem B_Model_toleranceFor_10 {d mc ms cs ss : Nat} {L : List (Option Value)} {st : List Value} {h : g_H} {Q : g_Po} (hw : g_wp Model_toleranceFor d mc ms Q 17 [(10, 1, 0, 0, 0, 0, .iload_n 2), (11, 1, 0, 0, 0, 2, .iconst 2), (12, 2, 0, 0, 0, 30, .bipush 30), (14, 3, 108, 0, 3219, 3, .invokestatic 45)] cs ss L st h) : G Model_toleranceFor d mc ms cs ss 10 L st h Q := G.run (by decide +kernel) hw
theorem B_Model_toleranceFor_17 {d mc ms cs ss : Nat} {L : List (Option Value)} {st : List Value} {h : g_H} {Q : g_Po} (hw : g_wp Model_toleranceFor d mc ms Q 20 [(17, 3, 23, 0, 0, 0, .ifCond .ne 6)] cs ss L st h) : G Model_toleranceFor d mc ms cs ss 17 L st h Q := G.run (by decide +kernel) hw
theorem B_Model_toleranceFor_20 {d mc ms cs ss : Nat} {L : List (Option Value)} {st : List Value} {h : g_H} {Q : g_Po} (hw : g_wp Model_toleranceFor d mc ms Q 23 [(20, 2, 0, 0, 0, (-2), .bipush (-2)), (22, 1, 0, 0, 0, 0, .ireturn)] cs ss L st h) : G Model_toleranceFor d mc ms cs ss 20 L st h Q := G.run (by decide +kernel) hw
theorem B_Model_toleranceFor_23 {d mc ms cs ss : Nat} {L : List (Option Value)} {st : List Value} {h : g_H} {Q : g_Po} (hw : g_wp Model_toleranceFor d mc ms Q 25 [(23, 1, 0, 0, 0, 0, .iconst 0), (24, 1, 0, 0, 0, 0, .istore_n 3)] cs ss L st h) : G Model_toleranceFor d mc ms cs ss 23 L st h Q := G.run (by decide +kernel) hw
theorem B_Model_toleranceFor_25 {d mc ms cs ss : Nat} {L : List (Option Value)} {st : List Value} {h : g_H} {Q : g_Po} (hw : g_wp Model_toleranceFor d mc ms Q 32 [(25, 1, 0, 0, 0, 0, .iload_n 3), (26, 3, 0, 0, 0, 200, .sipush 200), (29, 3, 54, 0, 0, 0, .if_icmp .gt 25)] cs ss L st h) : G Model_toleranceFor d mc ms cs ss 25 L st h Q := G.run (by decide +kernel) hw
theorem B_Model_toleranceFor_32 {d mc ms cs ss : Nat} {L : List (Option Value)} {st : List Value} {h : g_H} {Q : g_Po} (hw : g_wp Model_toleranceFor d mc ms Q 38 [(32, 1, 0, 0, 0, 0, .aload_n 0), (33, 1, 0, 0, 0, 0, .iload_n 1), (34, 1, 0, 0, 0, 0, .iload_n 3), (35, 3, 139, 7, 4027, 2, .invokevirtual 135)] cs ss L st h) : G Model_toleranceFor d mc ms cs ss 32 L st h Q := G.run (by decide +kernel) hw
theorem B_Model_toleranceFor_38 {d mc ms cs ss : Nat} {L : List (Option Value)} {st : List Value} {h : g_H} {Q : g_Po} (hw : g_wp Model_toleranceFor d mc ms Q 46 [(38, 1, 0, 0, 0, 0, .aload_n 0), (39, 3, 7, 12, 3157, 0, .getfield 70), (42, 1, 0, 0, 0, 0, .iload_n 2), (43, 3, 48, 0, 0, 0, .if_icmp .gt 5)] cs ss L st h) : G Model_toleranceFor d mc ms cs ss 38 L st h Q := G.run (by decide +kernel) hw
theorem B_Model_toleranceFor_46 {d mc ms cs ss : Nat} {L : List (Option Value)} {st : List Value} {h : g_H} {Q : g_Po} (hw : g_wp Model_toleranceFor d mc ms Q 48 [(46, 1, 0, 0, 0, 0, .iload_n 3), (47, 1, 0, 0, 0, 0, .ireturn)] cs ss L st h) : G Model_toleranceFor d mc ms cs ss 46 L st h Q := G.run (by decide +kernel) hw
theorem B_Model_toleranceFor_48 {d mc ms cs ss : Nat} {L : List (Option Value)} {st : List Value} {h : g_H} {Q : g_Po} (hw : g_wp Model_toleranceFor d mc ms Q 54 [(48, 3, 0, 0, 0, 1, .iinc 3 1), (51, 3, 25, 0, 0, 0, .goto (-26))] cs ss L st h) : G Model_toleranceFor d mc ms cs ss 48 L st h Q := G.run (by decide +kernel) hw
theorem B_Model_toleranceFor_54 {d mc ms cs ss : Nat} {L : List (Option Value)} {st : List Value} {h : g_H} {Q : g_Po} (hw : g_wp Model_toleranceFor d mc ms Q 57 [(54, 2, 0, 0, 0, (-6), .bipush (-6)), (56, 1, 0, 0, 0, 0, .ireturn)] cs ss L st h) : G Model_toleranceFor d mc ms cs ss 54 L st h Q := G.run (by decide +kernel) hw
theorem Mdl_ff_c {d M s : Nat} (d3 : 3 ≤ d) {st : Sta} {r : Nat → Int} {A : Nat → Nat → Int} {h : g_H} {Q : g_Po} (hm : mdl h M r A) (hr : stR (A 1) st) (w : wfL st.1) (wS : wfS (sg st.1 s)) (hs : s < st.1.length) (hQ : Q (some (.int (I (ffS (sg st.1 s) : Int)))) h) : Call Model_farFromFirst d 0 0 [.ref M, .int (I (s : Int))] h Q := by
  have d1 : 1 ≤ d := by omega
  have w10 := w.1
  obtain ⟨v1, v2, v3, v4, v5⟩ := id wS
  have loop : ∀ (m k v : Nat), k + m = (sg st.1 s).1.length → 2 ≤ k → v = ffb (sg st.1 s).1 (k - 1) → G Model_farFromFirst d 0 0 0 0 4 [some (.ref M), some (.int (I (s : Int))), some (.int (I (v : Int))), some (.int (I (k : Int)))] [] h Q := by
    intro m
    induction m with
    | zero =>
      intro k v hk h2 hv
      refine B_Model_farFromFirst_4 ?_
      simp only [wp_cons, wp_nil, List.getElem?_cons_zero, List.getElem?_cons_succ, List.set_cons_zero, List.set_cons_succ, s_iload_n3, ldI_s, s_aload_n0, ldA_r, ldA_n, s_iload_n1, s_invokevirtual, rc_s, ob_s, List.drop_succ_cons, List.drop_zero, List.take_succ_cons, List.take_zero, List.reverse_cons, List.reverse_nil, List.nil_append, List.cons_append, List.length_cons, List.length_nil, d1, Int.reduceToNat, Nat.reduceAdd, Nat.reduceLeDiff, true_and, and_true, Nat.le_refl, true_implies, forall_const, not_false_eq_true, false_implies, not_true_eq_false, reduceCtorEq, tl_s, tl_n, rf_s, true_or, or_true, hm.c]
      refine Mdl_len_c (by omega) hm hr w hs ?_
      refine B_Model_farFromFirst_10 ?_
      simp only [wp_cons, wp_nil, List.getElem?_cons_zero, List.getElem?_cons_succ, List.set_cons_zero, List.set_cons_succ, s_if_icmp_ge, p2_s, true_and, and_true, Nat.le_refl, true_implies, forall_const, not_false_eq_true, false_implies, not_true_eq_false, reduceCtorEq, tl_s, tl_n, rf_s, List.cons_append, List.nil_append, true_or, or_true, hm.c]
      refine b_le (by omega) (by omega) (fun cc => ?_) (fun cc => absurd cc (by omega))
      refine B_Model_farFromFirst_58 ?_
      simp only [wp_cons, wp_nil, List.getElem?_cons_zero, List.getElem?_cons_succ, List.set_cons_zero, List.set_cons_succ, s_iload_n2, ldI_s, s_ireturn, p1_s, rI_i, rI_z, rI_c, z_01, z_11, rt_Model_farFromFirst, true_and, and_true, Nat.le_refl, true_implies, forall_const, not_false_eq_true, false_implies, not_true_eq_false, reduceCtorEq, tl_s, tl_n, rf_s, List.cons_append, List.nil_append, true_or, or_true, hm.c]
      rw [hv, show k - 1 = (sg st.1 s).1.length - 1 by omega]
      exact hQ
    | succ m ih =>
      intro k v hk h2 hv
      have hvle : v ≤ k - 1 := hv ▸ ffb_le _ _
      have b0 := v3 0 (by omega)
      have b1 := v3 k (by omega)
      have b2 := v3 v (by omega)
      have b3 := sqd_bd b0 b1
      have b4 := sqd_bd b0 b2
      have hn : ffb (sg st.1 s).1 k = if sqd (pg (sg st.1 s).1 0) (pg (sg st.1 s).1 v) < sqd (pg (sg st.1 s).1 0) (pg (sg st.1 s).1 k) then k else v := by
        obtain ⟨j, rfl⟩ : ∃ j, k = j + 1 := ⟨k - 1, by omega⟩
        rw [hv]; rfl
      refine B_Model_farFromFirst_4 ?_
      simp only [wp_cons, wp_nil, List.getElem?_cons_zero, List.getElem?_cons_succ, List.set_cons_zero, List.set_cons_succ, s_iload_n3, ldI_s, s_aload_n0, ldA_r, ldA_n, s_iload_n1, s_invokevirtual, rc_s, ob_s, List.drop_succ_cons, List.drop_zero, List.take_succ_cons, List.take_zero, List.reverse_cons, List.reverse_nil, List.nil_append, List.cons_append, List.length_cons, List.length_nil, d1, Int.reduceToNat, Nat.reduceAdd, Nat.reduceLeDiff, true_and, and_true, Nat.le_refl, true_implies, forall_const, not_false_eq_true, false_implies, not_true_eq_false, reduceCtorEq, tl_s, tl_n, rf_s, true_or, or_true, hm.c]
      refine Mdl_len_c (by omega) hm hr w hs ?_
      refine B_Model_farFromFirst_10 ?_
      simp only [wp_cons, wp_nil, List.getElem?_cons_zero, List.getElem?_cons_succ, List.set_cons_zero, List.set_cons_succ, s_if_icmp_ge, p2_s, true_and, and_true, Nat.le_refl, true_implies, forall_const, not_false_eq_true, false_implies, not_true_eq_false, reduceCtorEq, tl_s, tl_n, rf_s, List.cons_append, List.nil_append, true_or, or_true, hm.c]
      refine b_le (by omega) (by omega) (fun cc => absurd cc (by omega)) (fun cc => ?_)
      refine B_Model_farFromFirst_13 ?_
      simp only [wp_cons, wp_nil, List.getElem?_cons_zero, List.getElem?_cons_succ, List.set_cons_zero, List.set_cons_succ, s_aload_n0, ldA_r, ldA_n, s_iload_n1, ldI_s, s_iconst, s_invokevirtual, rc_s, ob_s, List.drop_succ_cons, List.drop_zero, List.take_succ_cons, List.take_zero, List.reverse_cons, List.reverse_nil, List.nil_append, List.cons_append, List.length_cons, List.length_nil, d1, Int.reduceToNat, Nat.reduceAdd, Nat.reduceLeDiff, true_and, and_true, Nat.le_refl, true_implies, forall_const, not_false_eq_true, false_implies, not_true_eq_false, reduceCtorEq, tl_s, tl_n, rf_s, true_or, or_true, hm.c]
      refine Mdl_pAt_c (k := 0) (by omega) hm hr w hs (by omega) ?_
      refine B_Model_farFromFirst_19 ?_
      simp only [wp_cons, wp_nil, List.getElem?_cons_zero, List.getElem?_cons_succ, List.set_cons_zero, List.set_cons_succ, s_aload_n0, ldA_r, ldA_n, s_iload_n1, ldI_s, s_iload_n3, s_invokevirtual, rc_s, ob_s, List.drop_succ_cons, List.drop_zero, List.take_succ_cons, List.take_zero, List.reverse_cons, List.reverse_nil, List.nil_append, List.cons_append, List.length_cons, List.length_nil, d1, Int.reduceToNat, Nat.reduceAdd, Nat.reduceLeDiff, true_and, and_true, Nat.le_refl, true_implies, forall_const, not_false_eq_true, false_implies, not_true_eq_false, reduceCtorEq, tl_s, tl_n, rf_s, true_or, or_true, hm.c]
      refine Mdl_pAt_c (by omega) hm hr w hs (by omega) ?_
      refine B_Model_farFromFirst_25 ?_
      simp only [wp_cons, wp_nil, List.getElem?_cons_zero, List.getElem?_cons_succ, List.set_cons_zero, List.set_cons_succ, s_invokestatic, rc_s, ob_s, List.drop_succ_cons, List.drop_zero, List.take_succ_cons, List.take_zero, List.reverse_cons, List.reverse_nil, List.nil_append, List.cons_append, List.length_cons, List.length_nil, Nat.reduceEqDiff, reduceIte, p1_s, p2_s, l1_s, d1, Int.reduceToNat, Nat.reduceAdd, Nat.reduceLeDiff, true_and, and_true, Nat.le_refl, true_implies, forall_const, not_false_eq_true, false_implies, not_true_eq_false, reduceCtorEq, tl_s, tl_n, rf_s, true_or, or_true, hm.c]
      refine Mdl_sqd_c (by omega) b0 b1 ?_
      refine B_Model_farFromFirst_28 ?_
      simp only [wp_cons, wp_nil, List.getElem?_cons_zero, List.getElem?_cons_succ, List.set_cons_zero, List.set_cons_succ, s_aload_n0, ldA_r, ldA_n, s_iload_n1, ldI_s, s_iconst, s_invokevirtual, rc_s, ob_s, List.drop_succ_cons, List.drop_zero, List.take_succ_cons, List.take_zero, List.reverse_cons, List.reverse_nil, List.nil_append, List.cons_append, List.length_cons, List.length_nil, d1, Int.reduceToNat, Nat.reduceAdd, Nat.reduceLeDiff, true_and, and_true, Nat.le_refl, true_implies, forall_const, not_false_eq_true, false_implies, not_true_eq_false, reduceCtorEq, tl_s, tl_n, rf_s, true_or, or_true, hm.c]
      refine Mdl_pAt_c (k := 0) (by omega) hm hr w hs (by omega) ?_
      refine B_Model_farFromFirst_34 ?_
      simp only [wp_cons, wp_nil, List.getElem?_cons_zero, List.getElem?_cons_succ, List.set_cons_zero, List.set_cons_succ, s_aload_n0, ldA_r, ldA_n, s_iload_n1, ldI_s, s_iload_n2, s_invokevirtual, rc_s, ob_s, List.drop_succ_cons, List.drop_zero, List.take_succ_cons, List.take_zero, List.reverse_cons, List.reverse_nil, List.nil_append, List.cons_append, List.length_cons, List.length_nil, d1, Int.reduceToNat, Nat.reduceAdd, Nat.reduceLeDiff, true_and, and_true, Nat.le_refl, true_implies, forall_const, not_false_eq_true, false_implies, not_true_eq_false, reduceCtorEq, tl_s, tl_n, rf_s, true_or, or_true, hm.c]
      refine Mdl_pAt_c (by omega) hm hr w hs (by omega) ?_
      refine B_Model_farFromFirst_40 ?_
      simp only [wp_cons, wp_nil, List.getElem?_cons_zero, List.getElem?_cons_succ, List.set_cons_zero, List.set_cons_succ, s_invokestatic, rc_s, ob_s, List.drop_succ_cons, List.drop_zero, List.take_succ_cons, List.take_zero, List.reverse_cons, List.reverse_nil, List.nil_append, List.cons_append, List.length_cons, List.length_nil, Nat.reduceEqDiff, reduceIte, p1_s, p2_s, l1_s, d1, Int.reduceToNat, Nat.reduceAdd, Nat.reduceLeDiff, true_and, and_true, Nat.le_refl, true_implies, forall_const, not_false_eq_true, false_implies, not_true_eq_false, reduceCtorEq, tl_s, tl_n, rf_s, true_or, or_true, hm.c]
      refine Mdl_sqd_c (by omega) b0 b2 ?_
      refine B_Model_farFromFirst_43 ?_
      simp only [wp_cons, wp_nil, List.getElem?_cons_zero, List.getElem?_cons_succ, List.set_cons_zero, List.set_cons_succ, s_if_icmp_le, p2_s, true_and, and_true, Nat.le_refl, true_implies, forall_const, not_false_eq_true, false_implies, not_true_eq_false, reduceCtorEq, tl_s, tl_n, rf_s, List.cons_append, List.nil_append, true_or, or_true, hm.c]
      refine b_le (by omega) (by omega) (fun c => ?_) (fun c => ?_)
      · refine B_Model_farFromFirst_50 ?_
        simp only [wp_cons, wp_nil, List.getElem?_cons_zero, List.getElem?_cons_succ, List.set_cons_zero, List.set_cons_succ, s_iload_n2, ldI_s, true_and, and_true, Nat.le_refl, true_implies, forall_const, not_false_eq_true, false_implies, not_true_eq_false, reduceCtorEq, tl_s, tl_n, rf_s, List.cons_append, List.nil_append, true_or, or_true, hm.c]
        refine B_Model_farFromFirst_51 ?_
        simp only [wp_cons, wp_nil, List.getElem?_cons_zero, List.getElem?_cons_succ, List.set_cons_zero, List.set_cons_succ, s_istore_n2, p1_s, s1_0, s1_s, kx_i, kx_r, kx_n, kx_l, kx_0, s_iinc, ldI_s, I_add, s_goto, true_and, and_true, Nat.le_refl, true_implies, forall_const, not_false_eq_true, false_implies, not_true_eq_false, reduceCtorEq, tl_s, tl_n, rf_s, List.cons_append, List.nil_append, true_or, or_true, hm.c]
        exact ih (k + 1) v (by omega) (by omega) (by rw [show k + 1 - 1 = k by omega, hn, if_neg (by omega)])
      · refine B_Model_farFromFirst_46 ?_
        simp only [wp_cons, wp_nil, List.getElem?_cons_zero, List.getElem?_cons_succ, List.set_cons_zero, List.set_cons_succ, s_iload_n3, ldI_s, s_goto, true_and, and_true, Nat.le_refl, true_implies, forall_const, not_false_eq_true, false_implies, not_true_eq_false, reduceCtorEq, tl_s, tl_n, rf_s, List.cons_append, List.nil_append, true_or, or_true, hm.c]
        refine B_Model_farFromFirst_51 ?_
        simp only [wp_cons, wp_nil, List.getElem?_cons_zero, List.getElem?_cons_succ, List.set_cons_zero, List.set_cons_succ, s_istore_n2, p1_s, s1_0, s1_s, kx_i, kx_r, kx_n, kx_l, kx_0, s_iinc, ldI_s, I_add, s_goto, true_and, and_true, Nat.le_refl, true_implies, forall_const, not_false_eq_true, false_implies, not_true_eq_false, reduceCtorEq, tl_s, tl_n, rf_s, List.cons_append, List.nil_append, true_or, or_true, hm.c]
        exact ih (k + 1) k (by omega) (by omega) (by rw [show k + 1 - 1 = k by omega, hn, if_pos (by omega)])
  have e1 : ffb (sg st.1 s).1 1 = 1 := by
    have h1 := sqd_pos (v3 0 (by omega)) (v3 1 (by omega)) (v4 0 (by omega))
    have h2 := (sqd_0 (v3 0 (by omega)) (v3 0 (by omega))).mpr rfl
    show (if sqd (pg (sg st.1 s).1 0) (pg (sg st.1 s).1 0) < sqd (pg (sg st.1 s).1 0) (pg (sg st.1 s).1 (0 + 1)) then 0 + 1 else 0) = 1
    rw [if_pos (h2 ▸ h1)]
  refine Call.intro (by rfl) (Nat.le_of_ble_eq_true rfl) ?_
  refine G.eqL (L := [some (.ref _), some (.int _), none, none]) rfl ?_
  refine B_Model_farFromFirst_0 ?_
  simp only [wp_cons, wp_nil, List.getElem?_cons_zero, List.getElem?_cons_succ, List.set_cons_zero, List.set_cons_succ, s_iconst, s_istore_n2, p1_s, s1_0, s1_s, kx_i, kx_r, kx_n, kx_l, kx_0, s_istore_n3, true_and, and_true, Nat.le_refl, true_implies, forall_const, not_false_eq_true, false_implies, not_true_eq_false, reduceCtorEq, tl_s, tl_n, rf_s, List.cons_append, List.nil_append, true_or, or_true, hm.c]
  exact loop ((sg st.1 s).1.length - 2) 2 1 (by omega) (by omega) e1.symm
def mgS (a b p : Int) : Int := if a = b then sqd a p else ((crs a b p).natAbs : Int)
theorem mg_bd {a b p : Int} (ha : pt a) (hb : pt b) (hp : pt p) : 0 ≤ mgS a b p ∧ mgS a b p ≤ 1996002 := by
  have h1 := sqd_bd ha hp
  have h2 := crs_bd ha hb hp
  unfold mgS
  split <;> omega
theorem mg_off {a b p : Int} : offS a b p = if a = b then mgS a b p else mgS a b p * mgS a b p := by
  unfold offS mgS
  by_cases c : a = b
  · rw [if_pos c, if_pos c, if_pos c]
  · rw [if_neg c, if_neg c, if_neg c]
    rcases Int.le_total 0 (crs a b p) with q | q
    · rw [show ((crs a b p).natAbs : Int) = crs a b p by omega]
    · rw [show ((crs a b p).natAbs : Int) = -crs a b p by omega, Int.neg_mul_neg]
theorem mg_lt {a b p q : Int} (ha : pt a) (hb : pt b) (hp : pt p) (hq : pt q) : mgS a b p < mgS a b q ↔ offS a b p < offS a b q := by
  have h1 := mg_bd ha hb hp
  have h2 := mg_bd ha hb hq
  rw [mg_off, mg_off]
  split
  · exact Iff.rfl
  · refine ⟨fun h => ?_, fun h => ?_⟩
    · have e1 := sq_mono (a := mgS a b p + 1) (b := mgS a b q) (by omega) (by omega)
      have e2 : (mgS a b p + 1) * (mgS a b p + 1) = mgS a b p * mgS a b p + 2 * mgS a b p + 1 := by
        rw [Int.add_mul, Int.mul_add]; omega
      omega
    · by_cases c : mgS a b p < mgS a b q
      · exact c
      · have := sq_mono (a := mgS a b q) (b := mgS a b p) (by omega) (by omega)
        omega
set_option maxHeartbeats 2000000 in
theorem Mdl_far_c {d M s a b : Nat} {t : Int} (d3 : 3 ≤ d) {st : Sta} {r : Nat → Int} {A : Nat → Nat → Int} {h : g_H} {Q : g_Po} (hm : mdl h M r A) (hr : stR (A 1) st) (w : wfL st.1) (hs : s < st.1.length) (ha : a < (sg st.1 s).1.length) (hb : b ≤ (sg st.1 s).1.length) (ht : 0 ≤ t ∧ t ≤ 200)
    (hQ : Q (some (.int (I (if a + 1 < b ∧ t ≤ owS (sg st.1 s) a b then (frS (sg st.1 s) a b : Int) else -6)))) h) : Call Model_farthest d 0 0 [.ref M, .int (I (s : Int)), .int (I (a : Int)), .int (I (b : Int)), .int (I t)] h Q := by
  have d1 : 1 ≤ d := by omega
  have w10 := w.1
  obtain ⟨w1, w2, w3⟩ := w.2 s hs
  have b0 := w3 a ha
  have b1 := pr_pt (i := b) w3 (by omega)
  have bs := sqd_bd b0 b1
  have tt := sq_mono ht.1 ht.2
  have t0 := bd_sq t
  have tts := bd_mul (A := 40000) (B := 1996002) (a := t * t) (b := sqd (pg (sg st.1 s).1 a) (pr (sg st.1 s).1 b)) (by omega) (by omega)
  generalize hP : pg (sg st.1 s).1 a = P at b0 bs tts
  generalize hR : pr (sg st.1 s).1 b = R at b1 bs tts
  have fin : ∀ (v u : Int) (x10 x11 x12 : Option Value), -6 ≤ v ∧ v ≤ 40 → 0 ≤ u ∧ u ≤ 1996002 → (a + 1 < b → v = frS (sg st.1 s) a b ∧ u = mgS P R (pg (sg st.1 s).1 (frS (sg st.1 s) a b))) → (¬ a + 1 < b → v = -6) → G Model_farthest d 0 0 0 0 106 [some (.ref M), some (.int (I (s : Int))), some (.int (I (a : Int))), some (.int (I (b : Int))), some (.int (I t)), some (.int (I P)), some (.int (I R)), some (.int (I v)), some (.long (J u)), none, x10, x11, x12] [] h Q := by
    intro v u x10 x11 x12 hv hu hy hn
    have uu := bd_sq u
    have uu2 := bd_mul (A := 1996002) (B := 1996002) (a := u) (b := u) (by omega) (by omega)
    have far : ∀ (z : Int) (y12 : Option Value), z = 0 ∨ z = 1 → (a + 1 < b → (z = 1 ↔ t ≤ owS (sg st.1 s) a b)) → G Model_farthest d 0 0 0 0 165 [some (.ref M), some (.int (I (s : Int))), some (.int (I (a : Int))), some (.int (I (b : Int))), some (.int (I t)), some (.int (I P)), some (.int (I R)), some (.int (I v)), some (.long (J u)), none, some (.long (J t)), none, y12] [.int (I z)] h Q := by
      intro z y12 hz hz2
      by_cases c : a + 1 < b
      · have h1 := hy c
        have h2 := hz2 c
        rcases hz with rfl | rfl
        · rw [if_neg (fun q => absurd (h2.mpr q.2) (by omega))] at hQ
          refine B_Model_farthest_165 ?_
          simp only [wp_cons, wp_nil, List.getElem?_cons_zero, List.getElem?_cons_succ, List.set_cons_zero, List.set_cons_succ, s_istore, p1_s, s1_0, s1_s, kx_i, kx_r, kx_n, kx_l, kx_0, s_iload, ldI_s, s_ifCond_eq, true_and, and_true, Nat.le_refl, true_implies, forall_const, not_false_eq_true, false_implies, not_true_eq_false, reduceCtorEq, tl_s, tl_n, rf_s, List.cons_append, List.nil_append, true_or, or_true, hm.c]
          refine B_Model_farthest_177 ?_
          simp only [wp_cons, wp_nil, List.getElem?_cons_zero, List.getElem?_cons_succ, List.set_cons_zero, List.set_cons_succ, s_bipush, true_and, and_true, Nat.le_refl, true_implies, forall_const, not_false_eq_true, false_implies, not_true_eq_false, reduceCtorEq, tl_s, tl_n, rf_s, List.cons_append, List.nil_append, true_or, or_true, hm.c]
          refine B_Model_farthest_179 ?_
          simp only [wp_cons, wp_nil, List.getElem?_cons_zero, List.getElem?_cons_succ, List.set_cons_zero, List.set_cons_succ, s_ireturn, p1_s, rI_i, rI_z, rI_c, z_01, z_11, rt_Model_farthest, true_and, and_true, Nat.le_refl, true_implies, forall_const, not_false_eq_true, false_implies, not_true_eq_false, reduceCtorEq, tl_s, tl_n, rf_s, List.cons_append, List.nil_append, true_or, or_true, hm.c]
          exact hQ
        · rw [if_pos ⟨c, h2.mp rfl⟩, ← h1.1] at hQ
          refine B_Model_farthest_165 ?_
          simp only [wp_cons, wp_nil, List.getElem?_cons_zero, List.getElem?_cons_succ, List.set_cons_zero, List.set_cons_succ, s_istore, p1_s, s1_0, s1_s, kx_i, kx_r, kx_n, kx_l, kx_0, s_iload, ldI_s, s_ifCond_eq, true_and, and_true, Nat.le_refl, true_implies, forall_const, not_false_eq_true, false_implies, not_true_eq_false, reduceCtorEq, tl_s, tl_n, rf_s, List.cons_append, List.nil_append, true_or, or_true, hm.c]
          refine b_eq (by omega) (by omega) (fun cc => absurd cc (by omega)) (fun cc => ?_)
          refine B_Model_farthest_172 ?_
          simp only [wp_cons, wp_nil, List.getElem?_cons_zero, List.getElem?_cons_succ, List.set_cons_zero, List.set_cons_succ, s_iload, ldI_s, s_goto, true_and, and_true, Nat.le_refl, true_implies, forall_const, not_false_eq_true, false_implies, not_true_eq_false, reduceCtorEq, tl_s, tl_n, rf_s, List.cons_append, List.nil_append, true_or, or_true, hm.c]
          refine B_Model_farthest_179 ?_
          simp only [wp_cons, wp_nil, List.getElem?_cons_zero, List.getElem?_cons_succ, List.set_cons_zero, List.set_cons_succ, s_ireturn, p1_s, rI_i, rI_z, rI_c, z_01, z_11, rt_Model_farthest, true_and, and_true, Nat.le_refl, true_implies, forall_const, not_false_eq_true, false_implies, not_true_eq_false, reduceCtorEq, tl_s, tl_n, rf_s, List.cons_append, List.nil_append, true_or, or_true, hm.c]
          exact hQ
      · have h1 := hn c
        rw [if_neg (fun q => c q.1)] at hQ
        rcases hz with rfl | rfl
        · refine B_Model_farthest_165 ?_
          simp only [wp_cons, wp_nil, List.getElem?_cons_zero, List.getElem?_cons_succ, List.set_cons_zero, List.set_cons_succ, s_istore, p1_s, s1_0, s1_s, kx_i, kx_r, kx_n, kx_l, kx_0, s_iload, ldI_s, s_ifCond_eq, true_and, and_true, Nat.le_refl, true_implies, forall_const, not_false_eq_true, false_implies, not_true_eq_false, reduceCtorEq, tl_s, tl_n, rf_s, List.cons_append, List.nil_append, true_or, or_true, hm.c]
          refine B_Model_farthest_177 ?_
          simp only [wp_cons, wp_nil, List.getElem?_cons_zero, List.getElem?_cons_succ, List.set_cons_zero, List.set_cons_succ, s_bipush, true_and, and_true, Nat.le_refl, true_implies, forall_const, not_false_eq_true, false_implies, not_true_eq_false, reduceCtorEq, tl_s, tl_n, rf_s, List.cons_append, List.nil_append, true_or, or_true, hm.c]
          refine B_Model_farthest_179 ?_
          simp only [wp_cons, wp_nil, List.getElem?_cons_zero, List.getElem?_cons_succ, List.set_cons_zero, List.set_cons_succ, s_ireturn, p1_s, rI_i, rI_z, rI_c, z_01, z_11, rt_Model_farthest, true_and, and_true, Nat.le_refl, true_implies, forall_const, not_false_eq_true, false_implies, not_true_eq_false, reduceCtorEq, tl_s, tl_n, rf_s, List.cons_append, List.nil_append, true_or, or_true, hm.c]
          exact hQ
        · refine B_Model_farthest_165 ?_
          simp only [wp_cons, wp_nil, List.getElem?_cons_zero, List.getElem?_cons_succ, List.set_cons_zero, List.set_cons_succ, s_istore, p1_s, s1_0, s1_s, kx_i, kx_r, kx_n, kx_l, kx_0, s_iload, ldI_s, s_ifCond_eq, true_and, and_true, Nat.le_refl, true_implies, forall_const, not_false_eq_true, false_implies, not_true_eq_false, reduceCtorEq, tl_s, tl_n, rf_s, List.cons_append, List.nil_append, true_or, or_true, hm.c]
          refine b_eq (by omega) (by omega) (fun cc => absurd cc (by omega)) (fun cc => ?_)
          refine B_Model_farthest_172 ?_
          simp only [wp_cons, wp_nil, List.getElem?_cons_zero, List.getElem?_cons_succ, List.set_cons_zero, List.set_cons_succ, s_iload, ldI_s, s_goto, true_and, and_true, Nat.le_refl, true_implies, forall_const, not_false_eq_true, false_implies, not_true_eq_false, reduceCtorEq, tl_s, tl_n, rf_s, List.cons_append, List.nil_append, true_or, or_true, hm.c]
          refine B_Model_farthest_179 ?_
          simp only [wp_cons, wp_nil, List.getElem?_cons_zero, List.getElem?_cons_succ, List.set_cons_zero, List.set_cons_succ, s_ireturn, p1_s, rI_i, rI_z, rI_c, z_01, z_11, rt_Model_farthest, true_and, and_true, Nat.le_refl, true_implies, forall_const, not_false_eq_true, false_implies, not_true_eq_false, reduceCtorEq, tl_s, tl_n, rf_s, List.cons_append, List.nil_append, true_or, or_true, hm.c]
          rw [h1]
          exact hQ
    have key : a + 1 < b → (t ≤ owS (sg st.1 s) a b ↔ t * t * sclS P R < offS P R (pg (sg st.1 s).1 (frS (sg st.1 s) a b))) := by
      intro c
      have r3 := frS_rng (sg st.1 s) (a := a) (b := b) (by omega)
      unfold owS
      rw [hP, hR]
      exact own_iff b0 b1 (w3 _ (by omega)) ht
    by_cases c : P = R
    · have key2 : a + 1 < b → (t ≤ owS (sg st.1 s) a b ↔ t * t < u) := fun q => by
        rw [key q, (hy q).2, mg_off, if_pos c]
        unfold sclS
        rw [if_pos c, Int.mul_one]
      refine B_Model_farthest_106 ?_
      simp only [wp_cons, wp_nil, List.getElem?_cons_zero, List.getElem?_cons_succ, List.set_cons_zero, List.set_cons_succ, s_iload, ldI_s, s_i2l, p1_s, s_lstore, l1_s, s2_0, s2_s, kx_i, kx_r, kx_n, kx_l, kx_0, s_if_icmp_ne, p2_s, true_and, and_true, Nat.le_refl, true_implies, forall_const, not_false_eq_true, false_implies, not_true_eq_false, reduceCtorEq, tl_s, tl_n, rf_s, List.cons_append, List.nil_append, true_or, or_true, hm.c, I_J (show i32 t by omega)]
      refine b_ne (by omega) (by omega) (fun cc => absurd c cc) (fun cc => ?_)
      refine B_Model_farthest_118 ?_
      simp only [wp_cons, wp_nil, List.getElem?_cons_zero, List.getElem?_cons_succ, List.set_cons_zero, List.set_cons_succ, s_lload, ldL_s, s_lmul, l2_s, J_mul, s_lcmp, s_ifCond_le, p1_s, true_and, and_true, Nat.le_refl, true_implies, forall_const, not_false_eq_true, false_implies, not_true_eq_false, reduceCtorEq, tl_s, tl_n, rf_s, List.cons_append, List.nil_append, true_or, or_true, hm.c, I_J (show i32 t by omega)]
      refine b_cle (by omega) (by omega) (fun c => ?_) (fun c => ?_)
      · refine B_Model_farthest_133 ?_
        simp only [wp_cons, wp_nil, List.getElem?_cons_zero, List.getElem?_cons_succ, List.set_cons_zero, List.set_cons_succ, s_iconst, s_goto, true_and, and_true, Nat.le_refl, true_implies, forall_const, not_false_eq_true, false_implies, not_true_eq_false, reduceCtorEq, tl_s, tl_n, rf_s, List.cons_append, List.nil_append, true_or, or_true, hm.c, I_J (show i32 t by omega)]
        exact far 0 _ (Or.inl rfl) (fun q => by have := key2 q; omega)
      · refine B_Model_farthest_129 ?_
        simp only [wp_cons, wp_nil, List.getElem?_cons_zero, List.getElem?_cons_succ, List.set_cons_zero, List.set_cons_succ, s_iconst, s_goto, true_and, and_true, Nat.le_refl, true_implies, forall_const, not_false_eq_true, false_implies, not_true_eq_false, reduceCtorEq, tl_s, tl_n, rf_s, List.cons_append, List.nil_append, true_or, or_true, hm.c, I_J (show i32 t by omega)]
        exact far 1 _ (Or.inr rfl) (fun q => by have := key2 q; omega)
    · have key2 : a + 1 < b → (t ≤ owS (sg st.1 s) a b ↔ t * t * sqd P R < u * u) := fun q => by
        rw [key q, (hy q).2, mg_off, if_neg c]
        unfold sclS
        rw [if_neg c]
      refine B_Model_farthest_106 ?_
      simp only [wp_cons, wp_nil, List.getElem?_cons_zero, List.getElem?_cons_succ, List.set_cons_zero, List.set_cons_succ, s_iload, ldI_s, s_i2l, p1_s, s_lstore, l1_s, s2_0, s2_s, kx_i, kx_r, kx_n, kx_l, kx_0, s_if_icmp_ne, p2_s, true_and, and_true, Nat.le_refl, true_implies, forall_const, not_false_eq_true, false_implies, not_true_eq_false, reduceCtorEq, tl_s, tl_n, rf_s, List.cons_append, List.nil_append, true_or, or_true, hm.c, I_J (show i32 t by omega)]
      refine b_ne (by omega) (by omega) (fun cc => ?_) (fun cc => absurd cc c)
      refine B_Model_farthest_137 ?_
      simp only [wp_cons, wp_nil, List.getElem?_cons_zero, List.getElem?_cons_succ, List.set_cons_zero, List.set_cons_succ, s_lload, ldL_s, s_lmul, l2_s, J_mul, s_iload, ldI_s, s_invokestatic, rc_s, ob_s, List.drop_succ_cons, List.drop_zero, List.take_succ_cons, List.take_zero, List.reverse_cons, List.reverse_nil, List.nil_append, List.cons_append, List.length_cons, List.length_nil, Nat.reduceEqDiff, reduceIte, p1_s, p2_s, l1_s, d1, Int.reduceToNat, Nat.reduceAdd, Nat.reduceLeDiff, true_and, and_true, Nat.le_refl, true_implies, forall_const, not_false_eq_true, false_implies, not_true_eq_false, reduceCtorEq, tl_s, tl_n, rf_s, true_or, or_true, hm.c, I_J (show i32 t by omega)]
      refine Mdl_sqd_c (by omega) b0 b1 ?_
      refine B_Model_farthest_154 ?_
      simp only [wp_cons, wp_nil, List.getElem?_cons_zero, List.getElem?_cons_succ, List.set_cons_zero, List.set_cons_succ, s_i2l, p1_s, s_lmul, l2_s, J_mul, s_lcmp, s_ifCond_le, true_and, and_true, Nat.le_refl, true_implies, forall_const, not_false_eq_true, false_implies, not_true_eq_false, reduceCtorEq, tl_s, tl_n, rf_s, List.cons_append, List.nil_append, true_or, or_true, hm.c, I_J (show i32 t by omega), I_J (show i32 (sqd P R) by omega)]
      refine b_cle (by omega) (by omega) (fun c => ?_) (fun c => ?_)
      · refine B_Model_farthest_164 ?_
        simp only [wp_cons, wp_nil, List.getElem?_cons_zero, List.getElem?_cons_succ, List.set_cons_zero, List.set_cons_succ, s_iconst, true_and, and_true, Nat.le_refl, true_implies, forall_const, not_false_eq_true, false_implies, not_true_eq_false, reduceCtorEq, tl_s, tl_n, rf_s, List.cons_append, List.nil_append, true_or, or_true, hm.c, I_J (show i32 t by omega)]
        exact far 0 _ (Or.inl rfl) (fun q => by have := key2 q; omega)
      · refine B_Model_farthest_160 ?_
        simp only [wp_cons, wp_nil, List.getElem?_cons_zero, List.getElem?_cons_succ, List.set_cons_zero, List.set_cons_succ, s_iconst, s_goto, true_and, and_true, Nat.le_refl, true_implies, forall_const, not_false_eq_true, false_implies, not_true_eq_false, reduceCtorEq, tl_s, tl_n, rf_s, List.cons_append, List.nil_append, true_or, or_true, hm.c, I_J (show i32 t by omega)]
        exact far 1 _ (Or.inr rfl) (fun q => by have := key2 q; omega)
  have hfr : frS (sg st.1 s) a b = fbb (fun i => offS P R (pg (sg st.1 s).1 i)) a (b - a - 2) := by
    unfold frS
    rw [hP, hR]
  have loop : ∀ (m k : Nat) (v u : Int) (x11 x12 : Option Value), k + m = (if b ≤ a + 1 then a + 1 else b) → a < k → (v = if k = a + 1 then -6 else (fbb (fun i => offS P R (pg (sg st.1 s).1 i)) a (k - a - 2) : Int)) → (u = if k = a + 1 then 0 else mgS P R (pg (sg st.1 s).1 (fbb (fun i => offS P R (pg (sg st.1 s).1 i)) a (k - a - 2)))) → G Model_farthest d 0 0 0 0 28 [some (.ref M), some (.int (I (s : Int))), some (.int (I (a : Int))), some (.int (I (b : Int))), some (.int (I t)), some (.int (I P)), some (.int (I R)), some (.int (I v)), some (.long (J u)), none, some (.int (I (k : Int))), x11, x12] [] h Q := by
    intro m
    induction m with
    | zero =>
      intro k v u x11 x12 hk h1 hv hu
      by_cases cb : b ≤ a + 1
      · rw [if_pos cb] at hk
        rw [if_pos (by omega)] at hv hu
        refine B_Model_farthest_28 ?_
        simp only [wp_cons, wp_nil, List.getElem?_cons_zero, List.getElem?_cons_succ, List.set_cons_zero, List.set_cons_succ, s_iload, ldI_s, s_iload_n3, s_if_icmp_ge, p2_s, true_and, and_true, Nat.le_refl, true_implies, forall_const, not_false_eq_true, false_implies, not_true_eq_false, reduceCtorEq, tl_s, tl_n, rf_s, List.cons_append, List.nil_append, true_or, or_true, hm.c]
        refine b_le (by omega) (by omega) (fun cc => ?_) (fun cc => absurd cc (by omega))
        exact fin v u _ _ _ (by omega) (by omega) (fun q => absurd q (by omega)) (fun _ => hv)
      · rw [if_neg cb] at hk
        obtain rfl : k = b := by omega
        rw [if_neg (by omega), ← hfr] at hv hu
        have r3 := frS_rng (sg st.1 s) (a := a) (b := k) (by omega)
        have := mg_bd b0 b1 (w3 (frS (sg st.1 s) a k) (by omega))
        refine B_Model_farthest_28 ?_
        simp only [wp_cons, wp_nil, List.getElem?_cons_zero, List.getElem?_cons_succ, List.set_cons_zero, List.set_cons_succ, s_iload, ldI_s, s_iload_n3, s_if_icmp_ge, p2_s, true_and, and_true, Nat.le_refl, true_implies, forall_const, not_false_eq_true, false_implies, not_true_eq_false, reduceCtorEq, tl_s, tl_n, rf_s, List.cons_append, List.nil_append, true_or, or_true, hm.c]
        refine b_le (by omega) (by omega) (fun cc => ?_) (fun cc => absurd cc (by omega))
        exact fin v u _ _ _ (by omega) (by omega) (fun _ => ⟨hv, hu⟩) (fun q => absurd (by omega) q)
    | succ m ih =>
      intro k v u x11 x12 hk h1 hv hu
      have cb : ¬ b ≤ a + 1 := fun c => by rw [if_pos c] at hk; omega
      rw [if_neg cb] at hk
      have b2 := w3 k (by omega)
      have b3 := mg_bd b0 b1 b2
      have hub : 0 ≤ u ∧ u ≤ 1996002 := by
        rw [hu]
        split
        · omega
        · have q := fbb_rng (fun i => offS P R (pg (sg st.1 s).1 i)) a (k - a - 2)
          exact mg_bd b0 b1 (w3 _ (by omega))
      have hvb : -6 ≤ v ∧ v ≤ 40 ∧ (k ≠ a + 1 → v ≠ -6) := by
        rw [hv]
        have q := fbb_rng (fun i => offS P R (pg (sg st.1 s).1 i)) a (k - a - 2)
        split <;> omega
      have hn : (fbb (fun i => offS P R (pg (sg st.1 s).1 i)) a (k + 1 - a - 2) : Int) = if v = -6 ∨ u < mgS P R (pg (sg st.1 s).1 k) then (k : Int) else v := by
        by_cases e : k = a + 1
        · subst e
          rw [if_pos rfl] at hv
          rw [if_pos (Or.inl hv), show a + 1 + 1 - a - 2 = 0 by omega]
          rfl
        · obtain ⟨j, rfl⟩ : ∃ j, k = a + 1 + (j + 1) := ⟨k - a - 2, by omega⟩
          have q := fbb_rng (fun i => offS P R (pg (sg st.1 s).1 i)) a (a + 1 + (j + 1) - a - 2)
          have q2 := mg_lt b0 b1 (w3 (fbb (fun i => offS P R (pg (sg st.1 s).1 i)) a (a + 1 + (j + 1) - a - 2)) (by omega)) b2
          have q3 := hvb.2.2 e
          rw [if_neg e] at hu hv
          rw [← hu] at q2
          rw [show a + 1 + (j + 1) - a - 2 = j by omega] at q2 hv
          rw [show a + 1 + (j + 1) + 1 - a - 2 = j + 1 by omega]
          show ((if offS P R (pg (sg st.1 s).1 (fbb (fun i => offS P R (pg (sg st.1 s).1 i)) a j)) < offS P R (pg (sg st.1 s).1 (a + 1 + (j + 1))) then a + 1 + (j + 1) else fbb (fun i => offS P R (pg (sg st.1 s).1 i)) a j : Nat) : Int) = _
          by_cases c : u < mgS P R (pg (sg st.1 s).1 (a + 1 + (j + 1)))
          · rw [if_pos (Or.inr c), if_pos (q2.mp c)]
          · rw [if_neg (fun z => c (q2.mpr z)), if_neg (fun z : v = -6 ∨ u < mgS P R (pg (sg st.1 s).1 (a + 1 + (j + 1))) => z.elim q3 c)]
            exact hv.symm
      have st75 : ∀ y11 y12 : Option Value, G Model_farthest d 0 0 0 0 75 [some (.ref M), some (.int (I (s : Int))), some (.int (I (a : Int))), some (.int (I (b : Int))), some (.int (I t)), some (.int (I P)), some (.int (I R)), some (.int (I v)), some (.long (J u)), none, some (.int (I (k : Int))), y11, y12] [.long (J (mgS P R (pg (sg st.1 s).1 k)))] h Q := by
        intro y11 y12
        have up : v = -6 ∨ u < mgS P R (pg (sg st.1 s).1 k) → G Model_farthest d 0 0 0 0 92 [some (.ref M), some (.int (I (s : Int))), some (.int (I (a : Int))), some (.int (I (b : Int))), some (.int (I t)), some (.int (I P)), some (.int (I R)), some (.int (I v)), some (.long (J u)), none, some (.int (I (k : Int))), some (.long (J (mgS P R (pg (sg st.1 s).1 k)))), none] [] h Q := by
          intro c
          rw [if_pos c] at hn
          refine B_Model_farthest_92 ?_
          simp only [wp_cons, wp_nil, List.getElem?_cons_zero, List.getElem?_cons_succ, List.set_cons_zero, List.set_cons_succ, s_iload, ldI_s, s_istore, p1_s, s1_0, s1_s, kx_i, kx_r, kx_n, kx_l, kx_0, s_lload, ldL_s, s_lstore, l1_s, s2_0, s2_s, true_and, and_true, Nat.le_refl, true_implies, forall_const, not_false_eq_true, false_implies, not_true_eq_false, reduceCtorEq, tl_s, tl_n, rf_s, List.cons_append, List.nil_append, true_or, or_true, hm.c]
          refine B_Model_farthest_100 ?_
          simp only [wp_cons, wp_nil, List.getElem?_cons_zero, List.getElem?_cons_succ, List.set_cons_zero, List.set_cons_succ, s_iinc, ldI_s, s1_0, s1_s, kx_i, kx_r, kx_n, kx_l, kx_0, I_add, s_goto, true_and, and_true, Nat.le_refl, true_implies, forall_const, not_false_eq_true, false_implies, not_true_eq_false, reduceCtorEq, tl_s, tl_n, rf_s, List.cons_append, List.nil_append, true_or, or_true, hm.c]
          refine ih (k + 1) k _ _ _ (by rw [if_neg cb]; omega) (by omega) (by rw [if_neg (by omega), hn]) ?_
          rw [if_neg (by omega), show fbb (fun i => offS P R (pg (sg st.1 s).1 i)) a (k + 1 - a - 2) = k by omega]
        by_cases c1 : v = -6
        · refine B_Model_farthest_75 ?_
          simp only [wp_cons, wp_nil, List.getElem?_cons_zero, List.getElem?_cons_succ, List.set_cons_zero, List.set_cons_succ, s_lstore, l1_s, s2_0, s2_s, kx_i, kx_r, kx_n, kx_l, kx_0, s_iload, ldI_s, s_bipush, s_if_icmp_eq, p2_s, true_and, and_true, Nat.le_refl, true_implies, forall_const, not_false_eq_true, false_implies, not_true_eq_false, reduceCtorEq, tl_s, tl_n, rf_s, List.cons_append, List.nil_append, true_or, or_true, hm.c]
          refine b_eq (by omega) (by omega) (fun cc => ?_) (fun cc => absurd c1 cc)
          exact up (Or.inl c1)
        · refine B_Model_farthest_75 ?_
          simp only [wp_cons, wp_nil, List.getElem?_cons_zero, List.getElem?_cons_succ, List.set_cons_zero, List.set_cons_succ, s_lstore, l1_s, s2_0, s2_s, kx_i, kx_r, kx_n, kx_l, kx_0, s_iload, ldI_s, s_bipush, s_if_icmp_eq, p2_s, true_and, and_true, Nat.le_refl, true_implies, forall_const, not_false_eq_true, false_implies, not_true_eq_false, reduceCtorEq, tl_s, tl_n, rf_s, List.cons_append, List.nil_append, true_or, or_true, hm.c]
          refine b_eq (by omega) (by omega) (fun cc => absurd cc c1) (fun cc => ?_)
          refine B_Model_farthest_84 ?_
          simp only [wp_cons, wp_nil, List.getElem?_cons_zero, List.getElem?_cons_succ, List.set_cons_zero, List.set_cons_succ, s_lload, ldL_s, s_lcmp, l2_s, s_ifCond_le, p1_s, true_and, and_true, Nat.le_refl, true_implies, forall_const, not_false_eq_true, false_implies, not_true_eq_false, reduceCtorEq, tl_s, tl_n, rf_s, List.cons_append, List.nil_append, true_or, or_true, hm.c]
          refine b_cle (by omega) (by omega) (fun c => ?_) (fun c => ?_)
          · refine B_Model_farthest_100 ?_
            simp only [wp_cons, wp_nil, List.getElem?_cons_zero, List.getElem?_cons_succ, List.set_cons_zero, List.set_cons_succ, s_iinc, ldI_s, s1_0, s1_s, kx_i, kx_r, kx_n, kx_l, kx_0, I_add, s_goto, true_and, and_true, Nat.le_refl, true_implies, forall_const, not_false_eq_true, false_implies, not_true_eq_false, reduceCtorEq, tl_s, tl_n, rf_s, List.cons_append, List.nil_append, true_or, or_true, hm.c]
            rw [if_neg (by omega)] at hn
            have e : k ≠ a + 1 := fun q => by rw [if_pos q] at hv; exact c1 hv
            refine ih (k + 1) v u _ _ (by rw [if_neg cb]; omega) (by omega) (by rw [if_neg (by omega), hn]) ?_
            rw [if_neg (by omega)]
            rw [if_neg e] at hu hv
            rw [hu, show fbb (fun i => offS P R (pg (sg st.1 s).1 i)) a (k + 1 - a - 2) = fbb (fun i => offS P R (pg (sg st.1 s).1 i)) a (k - a - 2) by omega]
          · exact up (Or.inr (by omega))
      by_cases c : P = R
      · have e1 : mgS P R (pg (sg st.1 s).1 k) = sqd P (pg (sg st.1 s).1 k) := by unfold mgS; rw [if_pos c]
        rw [e1] at st75 b3
        refine B_Model_farthest_28 ?_
        simp only [wp_cons, wp_nil, List.getElem?_cons_zero, List.getElem?_cons_succ, List.set_cons_zero, List.set_cons_succ, s_iload, ldI_s, s_iload_n3, s_if_icmp_ge, p2_s, true_and, and_true, Nat.le_refl, true_implies, forall_const, not_false_eq_true, false_implies, not_true_eq_false, reduceCtorEq, tl_s, tl_n, rf_s, List.cons_append, List.nil_append, true_or, or_true, hm.c]
        refine b_le (by omega) (by omega) (fun cc => absurd cc (by omega)) (fun cc => ?_)
        refine B_Model_farthest_34 ?_
        simp only [wp_cons, wp_nil, List.getElem?_cons_zero, List.getElem?_cons_succ, List.set_cons_zero, List.set_cons_succ, s_iload, ldI_s, s_if_icmp_ne, p2_s, true_and, and_true, Nat.le_refl, true_implies, forall_const, not_false_eq_true, false_implies, not_true_eq_false, reduceCtorEq, tl_s, tl_n, rf_s, List.cons_append, List.nil_append, true_or, or_true, hm.c]
        refine b_ne (by omega) (by omega) (fun cc => absurd c cc) (fun cc => ?_)
        refine B_Model_farthest_41 ?_
        simp only [wp_cons, wp_nil, List.getElem?_cons_zero, List.getElem?_cons_succ, List.set_cons_zero, List.set_cons_succ, s_iload, ldI_s, s_aload_n0, ldA_r, ldA_n, s_iload_n1, s_invokevirtual, rc_s, ob_s, List.drop_succ_cons, List.drop_zero, List.take_succ_cons, List.take_zero, List.reverse_cons, List.reverse_nil, List.nil_append, List.cons_append, List.length_cons, List.length_nil, d1, Int.reduceToNat, Nat.reduceAdd, Nat.reduceLeDiff, true_and, and_true, Nat.le_refl, true_implies, forall_const, not_false_eq_true, false_implies, not_true_eq_false, reduceCtorEq, tl_s, tl_n, rf_s, true_or, or_true, hm.c]
        refine Mdl_pAt_c (by omega) hm hr w hs (by omega) ?_
        refine B_Model_farthest_50 ?_
        simp only [wp_cons, wp_nil, List.getElem?_cons_zero, List.getElem?_cons_succ, List.set_cons_zero, List.set_cons_succ, s_invokestatic, rc_s, ob_s, List.drop_succ_cons, List.drop_zero, List.take_succ_cons, List.take_zero, List.reverse_cons, List.reverse_nil, List.nil_append, List.cons_append, List.length_cons, List.length_nil, Nat.reduceEqDiff, reduceIte, p1_s, p2_s, l1_s, d1, Int.reduceToNat, Nat.reduceAdd, Nat.reduceLeDiff, true_and, and_true, Nat.le_refl, true_implies, forall_const, not_false_eq_true, false_implies, not_true_eq_false, reduceCtorEq, tl_s, tl_n, rf_s, true_or, or_true, hm.c]
        refine Mdl_sqd_c (by omega) b0 b2 ?_
        refine B_Model_farthest_53 ?_
        simp only [wp_cons, wp_nil, List.getElem?_cons_zero, List.getElem?_cons_succ, List.set_cons_zero, List.set_cons_succ, s_i2l, p1_s, s_goto, true_and, and_true, Nat.le_refl, true_implies, forall_const, not_false_eq_true, false_implies, not_true_eq_false, reduceCtorEq, tl_s, tl_n, rf_s, List.cons_append, List.nil_append, true_or, or_true, hm.c, I_J (show i32 (sqd P (pg (sg st.1 s).1 k)) by omega)]
        exact st75 _ _
      · have e1 : mgS P R (pg (sg st.1 s).1 k) = ((crs P R (pg (sg st.1 s).1 k)).natAbs : Int) := by unfold mgS; rw [if_neg c]
        rw [e1] at st75 b3
        have b4 := crs_bd b0 b1 b2
        refine B_Model_farthest_28 ?_
        simp only [wp_cons, wp_nil, List.getElem?_cons_zero, List.getElem?_cons_succ, List.set_cons_zero, List.set_cons_succ, s_iload, ldI_s, s_iload_n3, s_if_icmp_ge, p2_s, true_and, and_true, Nat.le_refl, true_implies, forall_const, not_false_eq_true, false_implies, not_true_eq_false, reduceCtorEq, tl_s, tl_n, rf_s, List.cons_append, List.nil_append, true_or, or_true, hm.c]
        refine b_le (by omega) (by omega) (fun cc => absurd cc (by omega)) (fun cc => ?_)
        refine B_Model_farthest_34 ?_
        simp only [wp_cons, wp_nil, List.getElem?_cons_zero, List.getElem?_cons_succ, List.set_cons_zero, List.set_cons_succ, s_iload, ldI_s, s_if_icmp_ne, p2_s, true_and, and_true, Nat.le_refl, true_implies, forall_const, not_false_eq_true, false_implies, not_true_eq_false, reduceCtorEq, tl_s, tl_n, rf_s, List.cons_append, List.nil_append, true_or, or_true, hm.c]
        refine b_ne (by omega) (by omega) (fun cc => ?_) (fun cc => absurd cc c)
        refine B_Model_farthest_57 ?_
        simp only [wp_cons, wp_nil, List.getElem?_cons_zero, List.getElem?_cons_succ, List.set_cons_zero, List.set_cons_succ, s_iload, ldI_s, s_aload_n0, ldA_r, ldA_n, s_iload_n1, s_invokevirtual, rc_s, ob_s, List.drop_succ_cons, List.drop_zero, List.take_succ_cons, List.take_zero, List.reverse_cons, List.reverse_nil, List.nil_append, List.cons_append, List.length_cons, List.length_nil, d1, Int.reduceToNat, Nat.reduceAdd, Nat.reduceLeDiff, true_and, and_true, Nat.le_refl, true_implies, forall_const, not_false_eq_true, false_implies, not_true_eq_false, reduceCtorEq, tl_s, tl_n, rf_s, true_or, or_true, hm.c]
        refine Mdl_pAt_c (by omega) hm hr w hs (by omega) ?_
        refine B_Model_farthest_68 ?_
        simp only [wp_cons, wp_nil, List.getElem?_cons_zero, List.getElem?_cons_succ, List.set_cons_zero, List.set_cons_succ, s_invokestatic, rc_s, ob_s, List.drop_succ_cons, List.drop_zero, List.take_succ_cons, List.take_zero, List.reverse_cons, List.reverse_nil, List.nil_append, List.cons_append, List.length_cons, List.length_nil, Nat.reduceEqDiff, reduceIte, p1_s, p2_s, l1_s, d1, Int.reduceToNat, Nat.reduceAdd, Nat.reduceLeDiff, true_and, and_true, Nat.le_refl, true_implies, forall_const, not_false_eq_true, false_implies, not_true_eq_false, reduceCtorEq, tl_s, tl_n, rf_s, true_or, or_true, hm.c]
        refine Mdl_side_c (by omega) b0 b1 b2 ?_
        refine B_Model_farthest_71 ?_
        simp only [wp_cons, wp_nil, List.getElem?_cons_zero, List.getElem?_cons_succ, List.set_cons_zero, List.set_cons_succ, s_invokestatic, rc_s, ob_s, List.drop_succ_cons, List.drop_zero, List.take_succ_cons, List.take_zero, List.reverse_cons, List.reverse_nil, List.nil_append, List.cons_append, List.length_cons, List.length_nil, Nat.reduceEqDiff, reduceIte, p1_s, p2_s, l1_s, d1, Int.reduceToNat, Nat.reduceAdd, Nat.reduceLeDiff, true_and, and_true, Nat.le_refl, true_implies, forall_const, not_false_eq_true, false_implies, not_true_eq_false, reduceCtorEq, tl_s, tl_n, rf_s, true_or, or_true, hm.c]
        refine Mdl_abs_c (by omega) ?_
        refine B_Model_farthest_74 ?_
        simp only [wp_cons, wp_nil, List.getElem?_cons_zero, List.getElem?_cons_succ, List.set_cons_zero, List.set_cons_succ, s_i2l, p1_s, true_and, and_true, Nat.le_refl, true_implies, forall_const, not_false_eq_true, false_implies, not_true_eq_false, reduceCtorEq, tl_s, tl_n, rf_s, List.cons_append, List.nil_append, true_or, or_true, hm.c, I_J (show i32 ((crs P R (pg (sg st.1 s).1 k)).natAbs : Int) by omega)]
        exact st75 _ _
  refine Call.intro (by rfl) (Nat.le_of_ble_eq_true rfl) ?_
  refine G.eqL (L := [some (.ref _), some (.int _), some (.int _), some (.int _), some (.int _), none, none, none, none, none, none, none, none]) rfl ?_
  refine B_Model_farthest_0 ?_
  simp only [wp_cons, wp_nil, List.getElem?_cons_zero, List.getElem?_cons_succ, List.set_cons_zero, List.set_cons_succ, s_aload_n0, ldA_r, ldA_n, s_iload_n1, ldI_s, s_iload_n2, s_invokevirtual, rc_s, ob_s, List.drop_succ_cons, List.drop_zero, List.take_succ_cons, List.take_zero, List.reverse_cons, List.reverse_nil, List.nil_append, List.cons_append, List.length_cons, List.length_nil, d1, Int.reduceToNat, Nat.reduceAdd, Nat.reduceLeDiff, true_and, and_true, Nat.le_refl, true_implies, forall_const, not_false_eq_true, false_implies, not_true_eq_false, reduceCtorEq, tl_s, tl_n, rf_s, true_or, or_true, hm.c]
  refine Mdl_pAt_c (by omega) hm hr w hs ha ?_
  rw [hP]
  refine B_Model_farthest_6 ?_
  simp only [wp_cons, wp_nil, List.getElem?_cons_zero, List.getElem?_cons_succ, List.set_cons_zero, List.set_cons_succ, s_istore, p1_s, s1_0, s1_s, kx_i, kx_r, kx_n, kx_l, kx_0, s_aload_n0, ldA_r, ldA_n, s_iload_n1, ldI_s, s_iload_n3, s_invokevirtual, rc_s, ob_s, List.drop_succ_cons, List.drop_zero, List.take_succ_cons, List.take_zero, List.reverse_cons, List.reverse_nil, List.nil_append, List.cons_append, List.length_cons, List.length_nil, d1, Int.reduceToNat, Nat.reduceAdd, Nat.reduceLeDiff, true_and, and_true, Nat.le_refl, true_implies, forall_const, not_false_eq_true, false_implies, not_true_eq_false, reduceCtorEq, tl_s, tl_n, rf_s, true_or, or_true, hm.c]
  refine Mdl_pAr_c (by omega) hm hr w hs hb ?_
  rw [hR]
  refine B_Model_farthest_14 ?_
  simp only [wp_cons, wp_nil, List.getElem?_cons_zero, List.getElem?_cons_succ, List.set_cons_zero, List.set_cons_succ, s_istore, p1_s, s1_0, s1_s, kx_i, kx_r, kx_n, kx_l, kx_0, s_bipush, s_lconst0, s_lconst1, s_lstore, l1_s, s2_0, s2_s, s_iload_n2, ldI_s, s_iconst, s_iadd, p2_s, I_add, true_and, and_true, Nat.le_refl, true_implies, forall_const, not_false_eq_true, false_implies, not_true_eq_false, reduceCtorEq, tl_s, tl_n, rf_s, List.cons_append, List.nil_append, true_or, or_true, hm.c]
  exact loop ((if b ≤ a + 1 then a + 1 else b) - (a + 1)) (a + 1) (-6) 0 _ _ (by split <;> omega) (by omega) (if_pos rfl).symm (if_pos rfl).symm
