/-! ===== the reference: joining ===== -/
/-! blocks of Model_mayJoin -/
theorem ml_Model_mayJoin : (g_m Model_mayJoin).2.2.1 = 3 := rfl
theorem rt_Model_mayJoin : (g_m Model_mayJoin).2.2.2.1 = (some .boolean) := rfl
theorem B_Model_mayJoin_0 {d mc ms cs ss : Nat} {L : List (Option Value)} {st : List Value} {h : g_H} {Q : g_Po} (hw : g_wp Model_mayJoin d mc ms Q 5 [(0, 1, 0, 0, 0, 0, .aload_n 0), (1, 1, 0, 0, 0, 0, .iload_n 1), (2, 3, 144, 7, 4105, 1, .invokevirtual 141)] cs ss L st h) : G Model_mayJoin d mc ms cs ss 0 L st h Q := G.run (by decide +kernel) hw
theorem B_Model_mayJoin_5 {d mc ms cs ss : Nat} {L : List (Option Value)} {st : List Value} {h : g_H} {Q : g_Po} (hw : g_wp Model_mayJoin d mc ms Q 10 [(5, 1, 0, 0, 0, 0, .aload_n 0), (6, 1, 0, 0, 0, 0, .iload_n 2), (7, 3, 144, 7, 4105, 1, .invokevirtual 141)] cs ss L st h) : G Model_mayJoin d mc ms cs ss 5 L st h Q := G.run (by decide +kernel) hw
theorem B_Model_mayJoin_10 {d mc ms cs ss : Nat} {L : List (Option Value)} {st : List Value} {h : g_H} {Q : g_Po} (hw : g_wp Model_mayJoin d mc ms Q 13 [(10, 3, 55, 0, 0, 0, .if_icmp .ne 45)] cs ss L st h) : G Model_mayJoin d mc ms cs ss 10 L st h Q := G.run (by decide +kernel) hw
theorem B_Model_mayJoin_13 {d mc ms cs ss : Nat} {L : List (Option Value)} {st : List Value} {h : g_H} {Q : g_Po} (hw : g_wp Model_mayJoin d mc ms Q 19 [(13, 1, 0, 0, 0, 0, .aload_n 0), (14, 1, 0, 0, 0, 0, .iload_n 1), (15, 1, 0, 0, 0, 0, .iload_n 2), (16, 3, 147, 7, 4116, 2, .invokevirtual 147)] cs ss L st h) : G Model_mayJoin d mc ms cs ss 13 L st h Q := G.run (by decide +kernel) hw
theorem B_Model_mayJoin_19 {d mc ms cs ss : Nat} {L : List (Option Value)} {st : List Value} {h : g_H} {Q : g_Po} (hw : g_wp Model_mayJoin d mc ms Q 22 [(19, 3, 55, 0, 0, 0, .ifCond .eq 36)] cs ss L st h) : G Model_mayJoin d mc ms cs ss 19 L st h Q := G.run (by decide +kernel) hw
theorem B_Model_mayJoin_22 {d mc ms cs ss : Nat} {L : List (Option Value)} {st : List Value} {h : g_H} {Q : g_Po} (hw : g_wp Model_mayJoin d mc ms Q 31 [(22, 1, 0, 0, 0, 0, .iload_n 1), (23, 1, 0, 0, 0, 2, .iconst 2), (24, 1, 0, 0, 0, 0, .idiv), (25, 1, 0, 0, 0, 0, .iload_n 2), (26, 1, 0, 0, 0, 2, .iconst 2), (27, 1, 0, 0, 0, 0, .idiv), (28, 3, 51, 0, 0, 0, .if_icmp .eq 23)] cs ss L st h) : G Model_mayJoin d mc ms cs ss 22 L st h Q := G.run (by decide +kernel) hw
theorem B_Model_mayJoin_31 {d mc ms cs ss : Nat} {L : List (Option Value)} {st : List Value} {h : g_H} {Q : g_Po} (hw : g_wp Model_mayJoin d mc ms Q 38 [(31, 1, 0, 0, 0, 0, .aload_n 0), (32, 1, 0, 0, 0, 0, .iload_n 1), (33, 1, 0, 0, 0, 2, .iconst 2), (34, 1, 0, 0, 0, 0, .idiv), (35, 3, 119, 7, 4047, 1, .invokevirtual 57)] cs ss L st h) : G Model_mayJoin d mc ms cs ss 31 L st h Q := G.run (by decide +kernel) hw
theorem B_Model_mayJoin_38 {d mc ms cs ss : Nat} {L : List (Option Value)} {st : List Value} {h : g_H} {Q : g_Po} (hw : g_wp Model_mayJoin d mc ms Q 45 [(38, 1, 0, 0, 0, 0, .aload_n 0), (39, 1, 0, 0, 0, 0, .iload_n 2), (40, 1, 0, 0, 0, 2, .iconst 2), (41, 1, 0, 0, 0, 0, .idiv), (42, 3, 119, 7, 4047, 1, .invokevirtual 57)] cs ss L st h) : G Model_mayJoin d mc ms cs ss 38 L st h Q := G.run (by decide +kernel) hw
theorem B_Model_mayJoin_45 {d mc ms cs ss : Nat} {L : List (Option Value)} {st : List Value} {h : g_H} {Q : g_Po} (hw : g_wp Model_mayJoin d mc ms Q 51 [(45, 1, 0, 0, 0, 0, .iadd), (46, 2, 0, 0, 0, 31, .bipush 31), (48, 3, 55, 0, 0, 0, .if_icmp .gt 7)] cs ss L st h) : G Model_mayJoin d mc ms cs ss 45 L st h Q := G.run (by decide +kernel) hw
theorem B_Model_mayJoin_51 {d mc ms cs ss : Nat} {L : List (Option Value)} {st : List Value} {h : g_H} {Q : g_Po} (hw : g_wp Model_mayJoin d mc ms Q 55 [(51, 1, 0, 0, 0, 1, .iconst 1), (52, 3, 56, 0, 0, 0, .goto 4)] cs ss L st h) : G Model_mayJoin d mc ms cs ss 51 L st h Q := G.run (by decide +kernel) hw
theorem B_Model_mayJoin_55 {d mc ms cs ss : Nat} {L : List (Option Value)} {st : List Value} {h : g_H} {Q : g_Po} (hw : g_wp Model_mayJoin d mc ms Q 56 [(55, 1, 0, 0, 0, 0, .iconst 0)] cs ss L st h) : G Model_mayJoin d mc ms cs ss 55 L st h Q := G.run (by decide +kernel) hw
theorem B_Model_mayJoin_56 {d mc ms cs ss : Nat} {L : List (Option Value)} {st : List Value} {h : g_H} {Q : g_Po} (hw : g_wp Model_mayJoin d mc ms Q 57 [(56, 1, 0, 0, 0, 0, .ireturn)] cs ss L st h) : G Model_mayJoin d mc ms cs ss 56 L st h Q := G.run (by decide +kernel) hw
/-! blocks of Model_findJoin -/
theorem ml_Model_findJoin : (g_m Model_findJoin).2.2.1 = 3 := rfl
theorem rt_Model_findJoin : (g_m Model_findJoin).2.2.2.1 = (some .boolean) := rfl
theorem B_Model_findJoin_0 {d mc ms cs ss : Nat} {L : List (Option Value)} {st : List Value} {h : g_H} {Q : g_Po} (hw : g_wp Model_findJoin d mc ms Q 17 [(0, 1, 0, 0, 0, 0, .aload_n 0), (1, 2, 0, 0, 0, (-6), .bipush (-6)), (3, 3, 7, 13, 3158, 0, .putfield 153), (6, 1, 0, 0, 0, 2, .iconst 2), (7, 1, 0, 0, 0, 0, .aload_n 0), (8, 3, 7, 0, 3145, 2, .getfield 7), (11, 1, 0, 0, 0, 0, .iconst 0), (12, 1, 0, 0, 0, 0, .iaload), (13, 1, 0, 0, 0, 0, .imul), (14, 1, 0, 0, 0, 1, .iconst 1), (15, 1, 0, 0, 0, 0, .isub), (16, 1, 0, 0, 0, 0, .istore_n 1)] cs ss L st h) : G Model_findJoin d mc ms cs ss 0 L st h Q := G.run (by decide +kernel) hw
theorem B_Model_findJoin_17 {d mc ms cs ss : Nat} {L : List (Option Value)} {st : List Value} {h : g_H} {Q : g_Po} (hw : g_wp Model_findJoin d mc ms Q 21 [(17, 1, 0, 0, 0, 0, .iload_n 1), (18, 3, 84, 0, 0, 0, .ifCond .lt 66)] cs ss L st h) : G Model_findJoin d mc ms cs ss 17 L st h Q := G.run (by decide +kernel) hw
theorem B_Model_findJoin_21 {d mc ms cs ss : Nat} {L : List (Option Value)} {st : List Value} {h : g_H} {Q : g_Po} (hw : g_wp Model_findJoin d mc ms Q 32 [(21, 1, 0, 0, 0, 2, .iconst 2), (22, 1, 0, 0, 0, 0, .aload_n 0), (23, 3, 7, 0, 3145, 2, .getfield 7), (26, 1, 0, 0, 0, 0, .iconst 0), (27, 1, 0, 0, 0, 0, .iaload), (28, 1, 0, 0, 0, 0, .imul), (29, 1, 0, 0, 0, 1, .iconst 1), (30, 1, 0, 0, 0, 0, .isub), (31, 1, 0, 0, 0, 0, .istore_n 2)] cs ss L st h) : G Model_findJoin d mc ms cs ss 21 L st h Q := G.run (by decide +kernel) hw
theorem B_Model_findJoin_32 {d mc ms cs ss : Nat} {L : List (Option Value)} {st : List Value} {h : g_H} {Q : g_Po} (hw : g_wp Model_findJoin d mc ms Q 37 [(32, 1, 0, 0, 0, 0, .iload_n 2), (33, 1, 0, 0, 0, 0, .iload_n 1), (34, 3, 78, 0, 0, 0, .if_icmp .le 44)] cs ss L st h) : G Model_findJoin d mc ms cs ss 32 L st h Q := G.run (by decide +kernel) hw
theorem B_Model_findJoin_37 {d mc ms cs ss : Nat} {L : List (Option Value)} {st : List Value} {h : g_H} {Q : g_Po} (hw : g_wp Model_findJoin d mc ms Q 42 [(37, 1, 0, 0, 0, 0, .aload_n 0), (38, 1, 0, 0, 0, 0, .iload_n 1), (39, 3, 142, 7, 4097, 1, .invokevirtual 156)] cs ss L st h) : G Model_findJoin d mc ms cs ss 37 L st h Q := G.run (by decide +kernel) hw
theorem B_Model_findJoin_42 {d mc ms cs ss : Nat} {L : List (Option Value)} {st : List Value} {h : g_H} {Q : g_Po} (hw : g_wp Model_findJoin d mc ms Q 45 [(42, 3, 72, 0, 0, 0, .ifCond .eq 30)] cs ss L st h) : G Model_findJoin d mc ms cs ss 42 L st h Q := G.run (by decide +kernel) hw
theorem B_Model_findJoin_45 {d mc ms cs ss : Nat} {L : List (Option Value)} {st : List Value} {h : g_H} {Q : g_Po} (hw : g_wp Model_findJoin d mc ms Q 50 [(45, 1, 0, 0, 0, 0, .aload_n 0), (46, 1, 0, 0, 0, 0, .iload_n 2), (47, 3, 142, 7, 4097, 1, .invokevirtual 156)] cs ss L st h) : G Model_findJoin d mc ms cs ss 45 L st h Q := G.run (by decide +kernel) hw
theorem B_Model_findJoin_50 {d mc ms cs ss : Nat} {L : List (Option Value)} {st : List Value} {h : g_H} {Q : g_Po} (hw : g_wp Model_findJoin d mc ms Q 53 [(50, 3, 72, 0, 0, 0, .ifCond .eq 22)] cs ss L st h) : G Model_findJoin d mc ms cs ss 50 L st h Q := G.run (by decide +kernel) hw
theorem B_Model_findJoin_53 {d mc ms cs ss : Nat} {L : List (Option Value)} {st : List Value} {h : g_H} {Q : g_Po} (hw : g_wp Model_findJoin d mc ms Q 59 [(53, 1, 0, 0, 0, 0, .aload_n 0), (54, 1, 0, 0, 0, 0, .iload_n 1), (55, 1, 0, 0, 0, 0, .iload_n 2), (56, 3, 153, 7, 4136, 2, .invokevirtual 174)] cs ss L st h) : G Model_findJoin d mc ms cs ss 53 L st h Q := G.run (by decide +kernel) hw
theorem B_Model_findJoin_59 {d mc ms cs ss : Nat} {L : List (Option Value)} {st : List Value} {h : g_H} {Q : g_Po} (hw : g_wp Model_findJoin d mc ms Q 62 [(59, 3, 72, 0, 0, 0, .ifCond .eq 13)] cs ss L st h) : G Model_findJoin d mc ms cs ss 59 L st h Q := G.run (by decide +kernel) hw
theorem B_Model_findJoin_62 {d mc ms cs ss : Nat} {L : List (Option Value)} {st : List Value} {h : g_H} {Q : g_Po} (hw : g_wp Model_findJoin d mc ms Q 72 [(62, 1, 0, 0, 0, 0, .aload_n 0), (63, 1, 0, 0, 0, 0, .iload_n 1), (64, 3, 7, 13, 3158, 0, .putfield 153), (67, 1, 0, 0, 0, 0, .aload_n 0), (68, 1, 0, 0, 0, 0, .iload_n 2), (69, 3, 7, 14, 3159, 0, .putfield 162)] cs ss L st h) : G Model_findJoin d mc ms cs ss 62 L st h Q := G.run (by decide +kernel) hw
theorem B_Model_findJoin_72 {d mc ms cs ss : Nat} {L : List (Option Value)} {st : List Value} {h : g_H} {Q : g_Po} (hw : g_wp Model_findJoin d mc ms Q 78 [(72, 3, 0, 0, 0, (-1), .iinc 2 (-1)), (75, 3, 32, 0, 0, 0, .goto (-43))] cs ss L st h) : G Model_findJoin d mc ms cs ss 72 L st h Q := G.run (by decide +kernel) hw
theorem B_Model_findJoin_78 {d mc ms cs ss : Nat} {L : List (Option Value)} {st : List Value} {h : g_H} {Q : g_Po} (hw : g_wp Model_findJoin d mc ms Q 84 [(78, 3, 0, 0, 0, (-1), .iinc 1 (-1)), (81, 3, 17, 0, 0, 0, .goto (-64))] cs ss L st h) : G Model_findJoin d mc ms cs ss 78 L st h Q := G.run (by decide +kernel) hw
theorem B_Model_findJoin_84 {d mc ms cs ss : Nat} {L : List (Option Value)} {st : List Value} {h : g_H} {Q : g_Po} (hw : g_wp Model_findJoin d mc ms Q 93 [(84, 1, 0, 0, 0, 0, .aload_n 0), (85, 3, 7, 13, 3158, 0, .getfield 153), (88, 2, 0, 0, 0, (-6), .bipush (-6)), (90, 3, 97, 0, 0, 0, .if_icmp .eq 7)] cs ss L st h) : G Model_findJoin d mc ms cs ss 84 L st h Q := G.run (by decide +kernel) hw
theorem B_Model_findJoin_93 {d mc ms cs ss : Nat} {L : List (Option Value)} {st : List Value} {h : g_H} {Q : g_Po} (hw : g_wp Model_findJoin d mc ms Q 97 [(93, 1, 0, 0, 0, 1, .iconst 1), (94, 3, 98, 0, 0, 0, .goto 4)] cs ss L st h) : G Model_findJoin d mc ms cs ss 93 L st h Q := G.run (by decide +kernel) hw
theorem B_Model_findJoin_97 {d mc ms cs ss : Nat} {L : List (Option Value)} {st : List Value} {h : g_H} {Q : g_Po} (hw : g_wp Model_findJoin d mc ms Q 98 [(97, 1, 0, 0, 0, 0, .iconst 0)] cs ss L st h) : G Model_findJoin d mc ms cs ss 97 L st h Q := G.run (by decide +kernel) hw
theorem B_Model_findJoin_98 {d mc ms cs ss : Nat} {L : List (Option Value)} {st : List Value} {h : g_H} {Q : g_Po} (hw : g_wp Model_findJoin d mc ms Q 99 [(98, 1, 0, 0, 0, 0, .ireturn)] cs ss L st h) : G Model_findJoin d mc ms cs ss 98 L st h Q := G.run (by decide +kernel) hw
/-! blocks of Model_joins -/
theorem ml_Model_joins : (g_m Model_joins).2.2.1 = 5 := rfl
theorem rt_Model_joins : (g_m Model_joins).2.2.2.1 = none := rfl
theorem B_Model_joins_0 {d mc ms cs ss : Nat} {L : List (Option Value)} {st : List Value} {h : g_H} {Q : g_Po} (hw : g_wp Model_joins d mc ms Q 4 [(0, 1, 0, 0, 0, 0, .aload_n 0), (1, 3, 154, 7, 4132, 0, .invokevirtual 177)] cs ss L st h) : G Model_joins d mc ms cs ss 0 L st h Q := G.run (by decide +kernel) hw
theorem B_Model_joins_4 {d mc ms cs ss : Nat} {L : List (Option Value)} {st : List Value} {h : g_H} {Q : g_Po} (hw : g_wp Model_joins d mc ms Q 7 [(4, 3, 172, 0, 0, 0, .ifCond .eq 168)] cs ss L st h) : G Model_joins d mc ms cs ss 4 L st h Q := G.run (by decide +kernel) hw
theorem B_Model_joins_7 {d mc ms cs ss : Nat} {L : List (Option Value)} {st : List Value} {h : g_H} {Q : g_Po} (hw : g_wp Model_joins d mc ms Q 31 [(7, 1, 0, 0, 0, 0, .aload_n 0), (8, 3, 7, 13, 3158, 0, .getfield 153), (11, 1, 0, 0, 0, 2, .iconst 2), (12, 1, 0, 0, 0, 0, .idiv), (13, 1, 0, 0, 0, 0, .istore_n 1), (14, 1, 0, 0, 0, 0, .aload_n 0), (15, 3, 7, 14, 3159, 0, .getfield 162), (18, 1, 0, 0, 0, 2, .iconst 2), (19, 1, 0, 0, 0, 0, .idiv), (20, 1, 0, 0, 0, 0, .istore_n 2), (21, 1, 0, 0, 0, 0, .aload_n 0), (22, 1, 0, 0, 0, 0, .iconst 0), (23, 3, 7, 12, 3157, 0, .putfield 70), (26, 1, 0, 0, 0, 0, .iload_n 1), (27, 1, 0, 0, 0, 0, .iload_n 2), (28, 3, 54, 0, 0, 0, .if_icmp .ne 26)] cs ss L st h) : G Model_joins d mc ms cs ss 7 L st h Q := G.run (by decide +kernel) hw
theorem B_Model_joins_31 {d mc ms cs ss : Nat} {L : List (Option Value)} {st : List Value} {h : g_H} {Q : g_Po} (hw : g_wp Model_joins d mc ms Q 40 [(31, 1, 0, 0, 0, 0, .aload_n 0), (32, 1, 0, 0, 0, 0, .iload_n 1), (33, 1, 0, 0, 0, 0, .iconst 0), (34, 1, 0, 0, 0, 1, .iconst 1), (35, 1, 0, 0, 0, 0, .aload_n 0), (36, 1, 0, 0, 0, 0, .iload_n 1), (37, 3, 119, 7, 4047, 1, .invokevirtual 57)] cs ss L st h) : G Model_joins d mc ms cs ss 31 L st h Q := G.run (by decide +kernel) hw
theorem B_Model_joins_40 {d mc ms cs ss : Nat} {L : List (Option Value)} {st : List Value} {h : g_H} {Q : g_Po} (hw : g_wp Model_joins d mc ms Q 45 [(40, 1, 0, 0, 0, 1, .iconst 1), (41, 1, 0, 0, 0, 0, .isub), (42, 3, 128, 7, 4078, 4, .invokevirtual 125)] cs ss L st h) : G Model_joins d mc ms cs ss 40 L st h Q := G.run (by decide +kernel) hw
theorem B_Model_joins_45 {d mc ms cs ss : Nat} {L : List (Option Value)} {st : List Value} {h : g_H} {Q : g_Po} (hw : g_wp Model_joins d mc ms Q 51 [(45, 1, 0, 0, 0, 0, .aload_n 0), (46, 1, 0, 0, 0, 0, .iload_n 1), (47, 1, 0, 0, 0, 1, .iconst 1), (48, 3, 127, 7, 4004, 2, .invokevirtual 87)] cs ss L st h) : G Model_joins d mc ms cs ss 45 L st h Q := G.run (by decide +kernel) hw
theorem B_Model_joins_51 {d mc ms cs ss : Nat} {L : List (Option Value)} {st : List Value} {h : g_H} {Q : g_Po} (hw : g_wp Model_joins d mc ms Q 54 [(51, 3, 169, 0, 0, 0, .goto 118)] cs ss L st h) : G Model_joins d mc ms cs ss 51 L st h Q := G.run (by decide +kernel) hw
theorem B_Model_joins_54 {d mc ms cs ss : Nat} {L : List (Option Value)} {st : List Value} {h : g_H} {Q : g_Po} (hw : g_wp Model_joins d mc ms Q 64 [(54, 1, 0, 0, 0, 0, .aload_n 0), (55, 3, 7, 13, 3158, 0, .getfield 153), (58, 1, 0, 0, 0, 2, .iconst 2), (59, 1, 0, 0, 0, 0, .irem), (60, 1, 0, 0, 0, 1, .iconst 1), (61, 3, 68, 0, 0, 0, .if_icmp .ne 7)] cs ss L st h) : G Model_joins d mc ms cs ss 54 L st h Q := G.run (by decide +kernel) hw
theorem B_Model_joins_64 {d mc ms cs ss : Nat} {L : List (Option Value)} {st : List Value} {h : g_H} {Q : g_Po} (hw : g_wp Model_joins d mc ms Q 68 [(64, 1, 0, 0, 0, 1, .iconst 1), (65, 3, 69, 0, 0, 0, .goto 4)] cs ss L st h) : G Model_joins d mc ms cs ss 64 L st h Q := G.run (by decide +kernel) hw
theorem B_Model_joins_68 {d mc ms cs ss : Nat} {L : List (Option Value)} {st : List Value} {h : g_H} {Q : g_Po} (hw : g_wp Model_joins d mc ms Q 69 [(68, 1, 0, 0, 0, 0, .iconst 0)] cs ss L st h) : G Model_joins d mc ms cs ss 68 L st h Q := G.run (by decide +kernel) hw
theorem B_Model_joins_69 {d mc ms cs ss : Nat} {L : List (Option Value)} {st : List Value} {h : g_H} {Q : g_Po} (hw : g_wp Model_joins d mc ms Q 76 [(69, 1, 0, 0, 0, 0, .istore_n 3), (70, 1, 0, 0, 0, 0, .aload_n 0), (71, 1, 0, 0, 0, 0, .iload_n 1), (72, 1, 0, 0, 0, 0, .iload_n 3), (73, 3, 80, 0, 0, 0, .ifCond .eq 7)] cs ss L st h) : G Model_joins d mc ms cs ss 69 L st h Q := G.run (by decide +kernel) hw
theorem B_Model_joins_76 {d mc ms cs ss : Nat} {L : List (Option Value)} {st : List Value} {h : g_H} {Q : g_Po} (hw : g_wp Model_joins d mc ms Q 80 [(76, 1, 0, 0, 0, 0, .iconst 0), (77, 3, 87, 0, 0, 0, .goto 10)] cs ss L st h) : G Model_joins d mc ms cs ss 76 L st h Q := G.run (by decide +kernel) hw
theorem B_Model_joins_80 {d mc ms cs ss : Nat} {L : List (Option Value)} {st : List Value} {h : g_H} {Q : g_Po} (hw : g_wp Model_joins d mc ms Q 85 [(80, 1, 0, 0, 0, 0, .aload_n 0), (81, 1, 0, 0, 0, 0, .iload_n 1), (82, 3, 119, 7, 4047, 1, .invokevirtual 57)] cs ss L st h) : G Model_joins d mc ms cs ss 80 L st h Q := G.run (by decide +kernel) hw
theorem B_Model_joins_85 {d mc ms cs ss : Nat} {L : List (Option Value)} {st : List Value} {h : g_H} {Q : g_Po} (hw : g_wp Model_joins d mc ms Q 87 [(85, 1, 0, 0, 0, 1, .iconst 1), (86, 1, 0, 0, 0, 0, .isub)] cs ss L st h) : G Model_joins d mc ms cs ss 85 L st h Q := G.run (by decide +kernel) hw
theorem B_Model_joins_87 {d mc ms cs ss : Nat} {L : List (Option Value)} {st : List Value} {h : g_H} {Q : g_Po} (hw : g_wp Model_joins d mc ms Q 91 [(87, 1, 0, 0, 0, 0, .iload_n 3), (88, 3, 95, 0, 0, 0, .ifCond .eq 7)] cs ss L st h) : G Model_joins d mc ms cs ss 87 L st h Q := G.run (by decide +kernel) hw
theorem B_Model_joins_91 {d mc ms cs ss : Nat} {L : List (Option Value)} {st : List Value} {h : g_H} {Q : g_Po} (hw : g_wp Model_joins d mc ms Q 95 [(91, 1, 0, 0, 0, 1, .iconst 1), (92, 3, 96, 0, 0, 0, .goto 4)] cs ss L st h) : G Model_joins d mc ms cs ss 91 L st h Q := G.run (by decide +kernel) hw
theorem B_Model_joins_95 {d mc ms cs ss : Nat} {L : List (Option Value)} {st : List Value} {h : g_H} {Q : g_Po} (hw : g_wp Model_joins d mc ms Q 96 [(95, 1, 0, 0, 0, (-1), .iconst (-1))] cs ss L st h) : G Model_joins d mc ms cs ss 95 L st h Q := G.run (by decide +kernel) hw
theorem B_Model_joins_96 {d mc ms cs ss : Nat} {L : List (Option Value)} {st : List Value} {h : g_H} {Q : g_Po} (hw : g_wp Model_joins d mc ms Q 101 [(96, 1, 0, 0, 0, 0, .aload_n 0), (97, 1, 0, 0, 0, 0, .iload_n 1), (98, 3, 119, 7, 4047, 1, .invokevirtual 57)] cs ss L st h) : G Model_joins d mc ms cs ss 96 L st h Q := G.run (by decide +kernel) hw
theorem B_Model_joins_101 {d mc ms cs ss : Nat} {L : List (Option Value)} {st : List Value} {h : g_H} {Q : g_Po} (hw : g_wp Model_joins d mc ms Q 104 [(101, 3, 128, 7, 4078, 4, .invokevirtual 125)] cs ss L st h) : G Model_joins d mc ms cs ss 101 L st h Q := G.run (by decide +kernel) hw
theorem B_Model_joins_104 {d mc ms cs ss : Nat} {L : List (Option Value)} {st : List Value} {h : g_H} {Q : g_Po} (hw : g_wp Model_joins d mc ms Q 113 [(104, 1, 0, 0, 0, 0, .aload_n 0), (105, 3, 7, 14, 3159, 0, .getfield 162), (108, 1, 0, 0, 0, 2, .iconst 2), (109, 1, 0, 0, 0, 0, .irem), (110, 3, 117, 0, 0, 0, .ifCond .ne 7)] cs ss L st h) : G Model_joins d mc ms cs ss 104 L st h Q := G.run (by decide +kernel) hw
theorem B_Model_joins_113 {d mc ms cs ss : Nat} {L : List (Option Value)} {st : List Value} {h : g_H} {Q : g_Po} (hw : g_wp Model_joins d mc ms Q 117 [(113, 1, 0, 0, 0, 1, .iconst 1), (114, 3, 118, 0, 0, 0, .goto 4)] cs ss L st h) : G Model_joins d mc ms cs ss 113 L st h Q := G.run (by decide +kernel) hw
theorem B_Model_joins_117 {d mc ms cs ss : Nat} {L : List (Option Value)} {st : List Value} {h : g_H} {Q : g_Po} (hw : g_wp Model_joins d mc ms Q 118 [(117, 1, 0, 0, 0, 0, .iconst 0)] cs ss L st h) : G Model_joins d mc ms cs ss 117 L st h Q := G.run (by decide +kernel) hw
theorem B_Model_joins_118 {d mc ms cs ss : Nat} {L : List (Option Value)} {st : List Value} {h : g_H} {Q : g_Po} (hw : g_wp Model_joins d mc ms Q 127 [(118, 2, 0, 0, 0, 0, .istore 4), (120, 1, 0, 0, 0, 0, .aload_n 0), (121, 1, 0, 0, 0, 0, .iload_n 2), (122, 2, 0, 0, 0, 0, .iload 4), (124, 3, 131, 0, 0, 0, .ifCond .eq 7)] cs ss L st h) : G Model_joins d mc ms cs ss 118 L st h Q := G.run (by decide +kernel) hw
theorem B_Model_joins_127 {d mc ms cs ss : Nat} {L : List (Option Value)} {st : List Value} {h : g_H} {Q : g_Po} (hw : g_wp Model_joins d mc ms Q 131 [(127, 1, 0, 0, 0, 1, .iconst 1), (128, 3, 138, 0, 0, 0, .goto 10)] cs ss L st h) : G Model_joins d mc ms cs ss 127 L st h Q := G.run (by decide +kernel) hw
theorem B_Model_joins_131 {d mc ms cs ss : Nat} {L : List (Option Value)} {st : List Value} {h : g_H} {Q : g_Po} (hw : g_wp Model_joins d mc ms Q 136 [(131, 1, 0, 0, 0, 0, .aload_n 0), (132, 1, 0, 0, 0, 0, .iload_n 2), (133, 3, 119, 7, 4047, 1, .invokevirtual 57)] cs ss L st h) : G Model_joins d mc ms cs ss 131 L st h Q := G.run (by decide +kernel) hw
theorem B_Model_joins_136 {d mc ms cs ss : Nat} {L : List (Option Value)} {st : List Value} {h : g_H} {Q : g_Po} (hw : g_wp Model_joins d mc ms Q 138 [(136, 1, 0, 0, 0, 2, .iconst 2), (137, 1, 0, 0, 0, 0, .isub)] cs ss L st h) : G Model_joins d mc ms cs ss 136 L st h Q := G.run (by decide +kernel) hw
theorem B_Model_joins_138 {d mc ms cs ss : Nat} {L : List (Option Value)} {st : List Value} {h : g_H} {Q : g_Po} (hw : g_wp Model_joins d mc ms Q 143 [(138, 2, 0, 0, 0, 0, .iload 4), (140, 3, 147, 0, 0, 0, .ifCond .eq 7)] cs ss L st h) : G Model_joins d mc ms cs ss 138 L st h Q := G.run (by decide +kernel) hw
theorem B_Model_joins_143 {d mc ms cs ss : Nat} {L : List (Option Value)} {st : List Value} {h : g_H} {Q : g_Po} (hw : g_wp Model_joins d mc ms Q 147 [(143, 1, 0, 0, 0, 1, .iconst 1), (144, 3, 148, 0, 0, 0, .goto 4)] cs ss L st h) : G Model_joins d mc ms cs ss 143 L st h Q := G.run (by decide +kernel) hw
theorem B_Model_joins_147 {d mc ms cs ss : Nat} {L : List (Option Value)} {st : List Value} {h : g_H} {Q : g_Po} (hw : g_wp Model_joins d mc ms Q 148 [(147, 1, 0, 0, 0, (-1), .iconst (-1))] cs ss L st h) : G Model_joins d mc ms cs ss 147 L st h Q := G.run (by decide +kernel) hw
theorem B_Model_joins_148 {d mc ms cs ss : Nat} {L : List (Option Value)} {st : List Value} {h : g_H} {Q : g_Po} (hw : g_wp Model_joins d mc ms Q 153 [(148, 1, 0, 0, 0, 0, .aload_n 0), (149, 1, 0, 0, 0, 0, .iload_n 2), (150, 3, 119, 7, 4047, 1, .invokevirtual 57)] cs ss L st h) : G Model_joins d mc ms cs ss 148 L st h Q := G.run (by decide +kernel) hw
theorem B_Model_joins_153 {d mc ms cs ss : Nat} {L : List (Option Value)} {st : List Value} {h : g_H} {Q : g_Po} (hw : g_wp Model_joins d mc ms Q 158 [(153, 1, 0, 0, 0, 1, .iconst 1), (154, 1, 0, 0, 0, 0, .isub), (155, 3, 128, 7, 4078, 4, .invokevirtual 125)] cs ss L st h) : G Model_joins d mc ms cs ss 153 L st h Q := G.run (by decide +kernel) hw
theorem B_Model_joins_158 {d mc ms cs ss : Nat} {L : List (Option Value)} {st : List Value} {h : g_H} {Q : g_Po} (hw : g_wp Model_joins d mc ms Q 164 [(158, 1, 0, 0, 0, 0, .aload_n 0), (159, 1, 0, 0, 0, 0, .iload_n 1), (160, 1, 0, 0, 0, 0, .iconst 0), (161, 3, 127, 7, 4004, 2, .invokevirtual 87)] cs ss L st h) : G Model_joins d mc ms cs ss 158 L st h Q := G.run (by decide +kernel) hw
theorem B_Model_joins_164 {d mc ms cs ss : Nat} {L : List (Option Value)} {st : List Value} {h : g_H} {Q : g_Po} (hw : g_wp Model_joins d mc ms Q 169 [(164, 1, 0, 0, 0, 0, .aload_n 0), (165, 1, 0, 0, 0, 0, .iload_n 2), (166, 3, 129, 7, 4140, 1, .invokevirtual 181)] cs ss L st h) : G Model_joins d mc ms cs ss 164 L st h Q := G.run (by decide +kernel) hw
theorem B_Model_joins_169 {d mc ms cs ss : Nat} {L : List (Option Value)} {st : List Value} {h : g_H} {Q : g_Po} (hw : g_wp Model_joins d mc ms Q 172 [(169, 3, 0, 0, 0, 0, .goto (-169))] cs ss L st h) : G Model_joins d mc ms cs ss 169 L st h Q := G.run (by decide +kernel) hw
theorem B_Model_joins_172 {d mc ms cs ss : Nat} {L : List (Option Value)} {st : List Value} {h : g_H} {Q : g_Po} (hw : g_wp Model_joins d mc ms Q 173 [(172, 1, 0, 0, 0, 0, .return_)] cs ss L st h) : G Model_joins d mc ms cs ss 172 L st h Q := G.run (by decide +kernel) hw
/-! blocks of Model_joinAll -/
theorem ml_Model_joinAll : (g_m Model_joinAll).2.2.1 = 1 := rfl
theorem rt_Model_joinAll : (g_m Model_joinAll).2.2.2.1 = (some .int) := rfl
theorem B_Model_joinAll_0 {d mc ms cs ss : Nat} {L : List (Option Value)} {st : List Value} {h : g_H} {Q : g_Po} (hw : g_wp Model_joinAll d mc ms Q 4 [(0, 1, 0, 0, 0, 0, .aload_n 0), (1, 3, 110, 7, 3222, 0, .invokevirtual 81)] cs ss L st h) : G Model_joinAll d mc ms cs ss 0 L st h Q := G.run (by decide +kernel) hw
theorem B_Model_joinAll_4 {d mc ms cs ss : Nat} {L : List (Option Value)} {st : List Value} {h : g_H} {Q : g_Po} (hw : g_wp Model_joinAll d mc ms Q 8 [(4, 1, 0, 0, 0, 0, .aload_n 0), (5, 3, 155, 7, 4128, 0, .invokevirtual 185)] cs ss L st h) : G Model_joinAll d mc ms cs ss 4 L st h Q := G.run (by decide +kernel) hw
theorem B_Model_joinAll_8 {d mc ms cs ss : Nat} {L : List (Option Value)} {st : List Value} {h : g_H} {Q : g_Po} (hw : g_wp Model_joinAll d mc ms Q 15 [(8, 1, 0, 0, 0, 0, .aload_n 0), (9, 3, 7, 0, 3145, 2, .getfield 7), (12, 1, 0, 0, 0, 0, .iconst 0), (13, 1, 0, 0, 0, 0, .iaload), (14, 1, 0, 0, 0, 0, .ireturn)] cs ss L st h) : G Model_joinAll d mc ms cs ss 8 L st h Q := G.run (by decide +kernel) hw
/-! blocks of Model_ifWelded -/
theorem ml_Model_ifWelded : (g_m Model_ifWelded).2.2.1 = 3 := rfl
theorem rt_Model_ifWelded : (g_m Model_ifWelded).2.2.2.1 = (some .int) := rfl
theorem B_Model_ifWelded_0 {d mc ms cs ss : Nat} {L : List (Option Value)} {st : List Value} {h : g_H} {Q : g_Po} (hw : g_wp Model_ifWelded d mc ms Q 4 [(0, 1, 0, 0, 0, 0, .iload_n 1), (1, 3, 151, 0, 4086, 1, .invokestatic 168)] cs ss L st h) : G Model_ifWelded d mc ms cs ss 0 L st h Q := G.run (by decide +kernel) hw
theorem B_Model_ifWelded_4 {d mc ms cs ss : Nat} {L : List (Option Value)} {st : List Value} {h : g_H} {Q : g_Po} (hw : g_wp Model_ifWelded d mc ms Q 7 [(4, 3, 10, 0, 0, 0, .ifCond .ne 6)] cs ss L st h) : G Model_ifWelded d mc ms cs ss 4 L st h Q := G.run (by decide +kernel) hw
theorem B_Model_ifWelded_7 {d mc ms cs ss : Nat} {L : List (Option Value)} {st : List Value} {h : g_H} {Q : g_Po} (hw : g_wp Model_ifWelded d mc ms Q 10 [(7, 2, 0, 0, 0, (-2), .bipush (-2)), (9, 1, 0, 0, 0, 0, .ireturn)] cs ss L st h) : G Model_ifWelded d mc ms cs ss 7 L st h Q := G.run (by decide +kernel) hw
theorem B_Model_ifWelded_10 {d mc ms cs ss : Nat} {L : List (Option Value)} {st : List Value} {h : g_H} {Q : g_Po} (hw : g_wp Model_ifWelded d mc ms Q 23 [(10, 1, 0, 0, 0, 0, .aload_n 0), (11, 3, 7, 0, 3145, 2, .getfield 7), (14, 1, 0, 0, 0, 0, .iconst 0), (15, 1, 0, 0, 0, 0, .aload_n 0), (16, 3, 7, 1, 3146, 2, .getfield 13), (19, 1, 0, 0, 0, 0, .iconst 0), (20, 3, 109, 0, 3226, 4, .invokestatic 41)] cs ss L st h) : G Model_ifWelded d mc ms cs ss 10 L st h Q := G.run (by decide +kernel) hw
theorem B_Model_ifWelded_23 {d mc ms cs ss : Nat} {L : List (Option Value)} {st : List Value} {h : g_H} {Q : g_Po} (hw : g_wp Model_ifWelded d mc ms Q 28 [(23, 1, 0, 0, 0, 0, .aload_n 0), (24, 1, 0, 0, 0, 0, .iload_n 1), (25, 3, 150, 7, 4089, 1, .invokevirtual 171)] cs ss L st h) : G Model_ifWelded d mc ms cs ss 23 L st h Q := G.run (by decide +kernel) hw
theorem B_Model_ifWelded_28 {d mc ms cs ss : Nat} {L : List (Option Value)} {st : List Value} {h : g_H} {Q : g_Po} (hw : g_wp Model_ifWelded d mc ms Q 33 [(28, 1, 0, 0, 0, 0, .pop), (29, 1, 0, 0, 0, 0, .aload_n 0), (30, 3, 155, 7, 4128, 0, .invokevirtual 185)] cs ss L st h) : G Model_ifWelded d mc ms cs ss 28 L st h Q := G.run (by decide +kernel) hw
theorem B_Model_ifWelded_33 {d mc ms cs ss : Nat} {L : List (Option Value)} {st : List Value} {h : g_H} {Q : g_Po} (hw : g_wp Model_ifWelded d mc ms Q 53 [(33, 1, 0, 0, 0, 0, .aload_n 0), (34, 3, 7, 0, 3145, 2, .getfield 7), (37, 1, 0, 0, 0, 0, .iconst 0), (38, 1, 0, 0, 0, 0, .iaload), (39, 1, 0, 0, 0, 0, .istore_n 2), (40, 1, 0, 0, 0, 0, .aload_n 0), (41, 3, 7, 1, 3146, 2, .getfield 13), (44, 1, 0, 0, 0, 0, .iconst 0), (45, 1, 0, 0, 0, 0, .aload_n 0), (46, 3, 7, 0, 3145, 2, .getfield 7), (49, 1, 0, 0, 0, 0, .iconst 0), (50, 3, 109, 0, 3226, 4, .invokestatic 41)] cs ss L st h) : G Model_ifWelded d mc ms cs ss 33 L st h Q := G.run (by decide +kernel) hw
theorem B_Model_ifWelded_53 {d mc ms cs ss : Nat} {L : List (Option Value)} {st : List Value} {h : g_H} {Q : g_Po} (hw : g_wp Model_ifWelded d mc ms Q 55 [(53, 1, 0, 0, 0, 0, .iload_n 2), (54, 1, 0, 0, 0, 0, .ireturn)] cs ss L st h) : G Model_ifWelded d mc ms cs ss 53 L st h Q := G.run (by decide +kernel) hw
theorem Mdl_mj_c {d M e f : Nat} (d4 : 4 ≤ d) {st : Sta} {r : Nat → Int} {A : Nat → Nat → Int} {h : g_H} {Q : g_Po} (hm : mdl h M r A) (hr : stR (A 1) st) (w : wfD st.1) (he : eo st.1 e) (hf : eo st.1 f) (hef : e < f) (hT : jv st.1 e f → Q (some (.int (I 1))) h) (hF : ¬ jv st.1 e f → Q (some (.int (I 0))) h) : Call Model_mayJoin d 0 0 [.ref M, .int (I (e : Int)), .int (I (f : Int))] h Q := by
  have d1 : 1 ≤ d := by omega
  have w0 := w.1
  have he1 := he.1
  have hf1 := hf.1
  have p1 := wfD_e w he
  have p2 := wfD_e w hf
  have z1 : ez st.1 e = (sg st.1 (e / 2)).1.length := rfl
  have z2 : ez st.1 f = (sg st.1 (f / 2)).1.length := rfl
  refine Call.intro (by rfl) (Nat.le_of_ble_eq_true rfl) ?_
  refine G.eqL (L := [some (.ref _), some (.int _), some (.int _)]) rfl ?_
  refine B_Model_mayJoin_0 ?_
  simp only [wp_cons, wp_nil, List.getElem?_cons_zero, List.getElem?_cons_succ, List.set_cons_zero, List.set_cons_succ, s_aload_n0, ldA_r, ldA_n, s_iload_n1, ldI_s, s_invokevirtual, rc_s, ob_s, List.drop_succ_cons, List.drop_zero, List.take_succ_cons, List.take_zero, List.reverse_cons, List.reverse_nil, List.nil_append, List.cons_append, List.length_cons, List.length_nil, d1, Int.reduceToNat, Nat.reduceAdd, Nat.reduceLeDiff, true_and, and_true, Nat.le_refl, true_implies, forall_const, not_false_eq_true, false_implies, not_true_eq_false, reduceCtorEq, tl_s, tl_n, rf_s, true_or, or_true, hm.c, I_hlf (e := e) (by omega), I_hlf (e := f) (by omega)]
  refine Mdl_ep_c (by omega) hm hr w he1 ?_
  refine B_Model_mayJoin_5 ?_
  simp only [wp_cons, wp_nil, List.getElem?_cons_zero, List.getElem?_cons_succ, List.set_cons_zero, List.set_cons_succ, s_aload_n0, ldA_r, ldA_n, s_iload_n2, ldI_s, s_invokevirtual, rc_s, ob_s, List.drop_succ_cons, List.drop_zero, List.take_succ_cons, List.take_zero, List.reverse_cons, List.reverse_nil, List.nil_append, List.cons_append, List.length_cons, List.length_nil, d1, Int.reduceToNat, Nat.reduceAdd, Nat.reduceLeDiff, true_and, and_true, Nat.le_refl, true_implies, forall_const, not_false_eq_true, false_implies, not_true_eq_false, reduceCtorEq, tl_s, tl_n, rf_s, true_or, or_true, hm.c, I_hlf (e := e) (by omega), I_hlf (e := f) (by omega)]
  refine Mdl_ep_c (by omega) hm hr w hf1 ?_
  by_cases c1 : ep st.1 e = ep st.1 f
  · refine B_Model_mayJoin_10 ?_
    simp only [wp_cons, wp_nil, List.getElem?_cons_zero, List.getElem?_cons_succ, List.set_cons_zero, List.set_cons_succ, s_if_icmp_ne, p2_s, true_and, and_true, Nat.le_refl, true_implies, forall_const, not_false_eq_true, false_implies, not_true_eq_false, reduceCtorEq, tl_s, tl_n, rf_s, List.cons_append, List.nil_append, true_or, or_true, hm.c, I_hlf (e := e) (by omega), I_hlf (e := f) (by omega)]
    refine b_ne (by omega) (by omega) (fun cc => absurd cc (by omega)) (fun cc => ?_)
    refine B_Model_mayJoin_13 ?_
    simp only [wp_cons, wp_nil, List.getElem?_cons_zero, List.getElem?_cons_succ, List.set_cons_zero, List.set_cons_succ, s_aload_n0, ldA_r, ldA_n, s_iload_n1, ldI_s, s_iload_n2, s_invokevirtual, rc_s, ob_s, List.drop_succ_cons, List.drop_zero, List.take_succ_cons, List.take_zero, List.reverse_cons, List.reverse_nil, List.nil_append, List.cons_append, List.length_cons, List.length_nil, d1, Int.reduceToNat, Nat.reduceAdd, Nat.reduceLeDiff, true_and, and_true, Nat.le_refl, true_implies, forall_const, not_false_eq_true, false_implies, not_true_eq_false, reduceCtorEq, tl_s, tl_n, rf_s, true_or, or_true, hm.c, I_hlf (e := e) (by omega), I_hlf (e := f) (by omega)]
    refine Mdl_one_c (by omega) hm hr w he1 hf1 (fun c2 => ?_) (fun c2 => ?_)
    · by_cases c3 : e / 2 = f / 2
      · refine B_Model_mayJoin_19 ?_
        simp only [wp_cons, wp_nil, List.getElem?_cons_zero, List.getElem?_cons_succ, List.set_cons_zero, List.set_cons_succ, s_ifCond_eq, p1_s, true_and, and_true, Nat.le_refl, true_implies, forall_const, not_false_eq_true, false_implies, not_true_eq_false, reduceCtorEq, tl_s, tl_n, rf_s, List.cons_append, List.nil_append, true_or, or_true, hm.c, I_hlf (e := e) (by omega), I_hlf (e := f) (by omega)]
        refine b_eq (by omega) (by omega) (fun cc => absurd cc (by omega)) (fun cc => ?_)
        refine B_Model_mayJoin_22 ?_
        simp only [wp_cons, wp_nil, List.getElem?_cons_zero, List.getElem?_cons_succ, List.set_cons_zero, List.set_cons_succ, s_iload_n1, ldI_s, s_iconst, s_idiv, p2_s, ne_k1000, ne_k2, s_iload_n2, s_if_icmp_eq, true_and, and_true, Nat.le_refl, true_implies, forall_const, not_false_eq_true, false_implies, not_true_eq_false, reduceCtorEq, tl_s, tl_n, rf_s, List.cons_append, List.nil_append, true_or, or_true, hm.c, I_hlf (e := e) (by omega), I_hlf (e := f) (by omega)]
        refine b_eq (by omega) (by omega) (fun cc => ?_) (fun cc => absurd cc (by omega))
        refine B_Model_mayJoin_51 ?_
        simp only [wp_cons, wp_nil, List.getElem?_cons_zero, List.getElem?_cons_succ, List.set_cons_zero, List.set_cons_succ, s_iconst, s_goto, true_and, and_true, Nat.le_refl, true_implies, forall_const, not_false_eq_true, false_implies, not_true_eq_false, reduceCtorEq, tl_s, tl_n, rf_s, List.cons_append, List.nil_append, true_or, or_true, hm.c, I_hlf (e := e) (by omega), I_hlf (e := f) (by omega)]
        refine B_Model_mayJoin_56 ?_
        simp only [wp_cons, wp_nil, List.getElem?_cons_zero, List.getElem?_cons_succ, List.set_cons_zero, List.set_cons_succ, s_ireturn, p1_s, rI_i, rI_z, rI_c, z_01, z_11, rt_Model_mayJoin, true_and, and_true, Nat.le_refl, true_implies, forall_const, not_false_eq_true, false_implies, not_true_eq_false, reduceCtorEq, tl_s, tl_n, rf_s, List.cons_append, List.nil_append, true_or, or_true, hm.c, I_hlf (e := e) (by omega), I_hlf (e := f) (by omega)]
        exact hT ⟨hef, he, hf, c1, fun _ => by omega, fun q => absurd c3 q⟩
      · refine B_Model_mayJoin_19 ?_
        simp only [wp_cons, wp_nil, List.getElem?_cons_zero, List.getElem?_cons_succ, List.set_cons_zero, List.set_cons_succ, s_ifCond_eq, p1_s, true_and, and_true, Nat.le_refl, true_implies, forall_const, not_false_eq_true, false_implies, not_true_eq_false, reduceCtorEq, tl_s, tl_n, rf_s, List.cons_append, List.nil_append, true_or, or_true, hm.c, I_hlf (e := e) (by omega), I_hlf (e := f) (by omega)]
        refine b_eq (by omega) (by omega) (fun cc => absurd cc (by omega)) (fun cc => ?_)
        refine B_Model_mayJoin_22 ?_
        simp only [wp_cons, wp_nil, List.getElem?_cons_zero, List.getElem?_cons_succ, List.set_cons_zero, List.set_cons_succ, s_iload_n1, ldI_s, s_iconst, s_idiv, p2_s, ne_k1000, ne_k2, s_iload_n2, s_if_icmp_eq, true_and, and_true, Nat.le_refl, true_implies, forall_const, not_false_eq_true, false_implies, not_true_eq_false, reduceCtorEq, tl_s, tl_n, rf_s, List.cons_append, List.nil_append, true_or, or_true, hm.c, I_hlf (e := e) (by omega), I_hlf (e := f) (by omega)]
        refine b_eq (by omega) (by omega) (fun cc => absurd cc (by omega)) (fun cc => ?_)
        refine B_Model_mayJoin_31 ?_
        simp only [wp_cons, wp_nil, List.getElem?_cons_zero, List.getElem?_cons_succ, List.set_cons_zero, List.set_cons_succ, s_aload_n0, ldA_r, ldA_n, s_iload_n1, ldI_s, s_iconst, s_idiv, p2_s, ne_k1000, ne_k2, s_invokevirtual, rc_s, ob_s, List.drop_succ_cons, List.drop_zero, List.take_succ_cons, List.take_zero, List.reverse_cons, List.reverse_nil, List.nil_append, List.cons_append, List.length_cons, List.length_nil, d1, Int.reduceToNat, Nat.reduceAdd, Nat.reduceLeDiff, true_and, and_true, Nat.le_refl, true_implies, forall_const, not_false_eq_true, false_implies, not_true_eq_false, reduceCtorEq, tl_s, tl_n, rf_s, true_or, or_true, hm.c, I_hlf (e := e) (by omega), I_hlf (e := f) (by omega)]
        refine Mdl_len_c (by omega) hm hr w.l (by omega) ?_
        refine B_Model_mayJoin_38 ?_
        simp only [wp_cons, wp_nil, List.getElem?_cons_zero, List.getElem?_cons_succ, List.set_cons_zero, List.set_cons_succ, s_aload_n0, ldA_r, ldA_n, s_iload_n2, ldI_s, s_iconst, s_idiv, p2_s, ne_k1000, ne_k2, s_invokevirtual, rc_s, ob_s, List.drop_succ_cons, List.drop_zero, List.take_succ_cons, List.take_zero, List.reverse_cons, List.reverse_nil, List.nil_append, List.cons_append, List.length_cons, List.length_nil, d1, Int.reduceToNat, Nat.reduceAdd, Nat.reduceLeDiff, true_and, and_true, Nat.le_refl, true_implies, forall_const, not_false_eq_true, false_implies, not_true_eq_false, reduceCtorEq, tl_s, tl_n, rf_s, true_or, or_true, hm.c, I_hlf (e := e) (by omega), I_hlf (e := f) (by omega)]
        refine Mdl_len_c (by omega) hm hr w.l (by omega) ?_
        by_cases c4 : ez st.1 e + ez st.1 f ≤ 31
        · refine B_Model_mayJoin_45 ?_
          simp only [wp_cons, wp_nil, List.getElem?_cons_zero, List.getElem?_cons_succ, List.set_cons_zero, List.set_cons_succ, s_iadd, p2_s, I_add, s_bipush, s_if_icmp_gt, true_and, and_true, Nat.le_refl, true_implies, forall_const, not_false_eq_true, false_implies, not_true_eq_false, reduceCtorEq, tl_s, tl_n, rf_s, List.cons_append, List.nil_append, true_or, or_true, hm.c, I_hlf (e := e) (by omega), I_hlf (e := f) (by omega)]
          refine b_lt (by omega) (by omega) (fun cc => absurd cc (by omega)) (fun cc => ?_)
          refine B_Model_mayJoin_51 ?_
          simp only [wp_cons, wp_nil, List.getElem?_cons_zero, List.getElem?_cons_succ, List.set_cons_zero, List.set_cons_succ, s_iconst, s_goto, true_and, and_true, Nat.le_refl, true_implies, forall_const, not_false_eq_true, false_implies, not_true_eq_false, reduceCtorEq, tl_s, tl_n, rf_s, List.cons_append, List.nil_append, true_or, or_true, hm.c, I_hlf (e := e) (by omega), I_hlf (e := f) (by omega)]
          refine B_Model_mayJoin_56 ?_
          simp only [wp_cons, wp_nil, List.getElem?_cons_zero, List.getElem?_cons_succ, List.set_cons_zero, List.set_cons_succ, s_ireturn, p1_s, rI_i, rI_z, rI_c, z_01, z_11, rt_Model_mayJoin, true_and, and_true, Nat.le_refl, true_implies, forall_const, not_false_eq_true, false_implies, not_true_eq_false, reduceCtorEq, tl_s, tl_n, rf_s, List.cons_append, List.nil_append, true_or, or_true, hm.c, I_hlf (e := e) (by omega), I_hlf (e := f) (by omega)]
          exact hT ⟨hef, he, hf, c1, fun q => absurd q c3, fun _ => c4⟩
        · refine B_Model_mayJoin_45 ?_
          simp only [wp_cons, wp_nil, List.getElem?_cons_zero, List.getElem?_cons_succ, List.set_cons_zero, List.set_cons_succ, s_iadd, p2_s, I_add, s_bipush, s_if_icmp_gt, true_and, and_true, Nat.le_refl, true_implies, forall_const, not_false_eq_true, false_implies, not_true_eq_false, reduceCtorEq, tl_s, tl_n, rf_s, List.cons_append, List.nil_append, true_or, or_true, hm.c, I_hlf (e := e) (by omega), I_hlf (e := f) (by omega)]
          refine b_lt (by omega) (by omega) (fun cc => ?_) (fun cc => absurd cc (by omega))
          refine B_Model_mayJoin_55 ?_
          simp only [wp_cons, wp_nil, List.getElem?_cons_zero, List.getElem?_cons_succ, List.set_cons_zero, List.set_cons_succ, s_iconst, true_and, and_true, Nat.le_refl, true_implies, forall_const, not_false_eq_true, false_implies, not_true_eq_false, reduceCtorEq, tl_s, tl_n, rf_s, List.cons_append, List.nil_append, true_or, or_true, hm.c, I_hlf (e := e) (by omega), I_hlf (e := f) (by omega)]
          refine B_Model_mayJoin_56 ?_
          simp only [wp_cons, wp_nil, List.getElem?_cons_zero, List.getElem?_cons_succ, List.set_cons_zero, List.set_cons_succ, s_ireturn, p1_s, rI_i, rI_z, rI_c, z_01, z_11, rt_Model_mayJoin, true_and, and_true, Nat.le_refl, true_implies, forall_const, not_false_eq_true, false_implies, not_true_eq_false, reduceCtorEq, tl_s, tl_n, rf_s, List.cons_append, List.nil_append, true_or, or_true, hm.c, I_hlf (e := e) (by omega), I_hlf (e := f) (by omega)]
          exact hF (fun q => c4 (q.2.2.2.2.2 c3))
    · refine B_Model_mayJoin_19 ?_
      simp only [wp_cons, wp_nil, List.getElem?_cons_zero, List.getElem?_cons_succ, List.set_cons_zero, List.set_cons_succ, s_ifCond_eq, p1_s, true_and, and_true, Nat.le_refl, true_implies, forall_const, not_false_eq_true, false_implies, not_true_eq_false, reduceCtorEq, tl_s, tl_n, rf_s, List.cons_append, List.nil_append, true_or, or_true, hm.c, I_hlf (e := e) (by omega), I_hlf (e := f) (by omega)]
      refine B_Model_mayJoin_55 ?_
      simp only [wp_cons, wp_nil, List.getElem?_cons_zero, List.getElem?_cons_succ, List.set_cons_zero, List.set_cons_succ, s_iconst, true_and, and_true, Nat.le_refl, true_implies, forall_const, not_false_eq_true, false_implies, not_true_eq_false, reduceCtorEq, tl_s, tl_n, rf_s, List.cons_append, List.nil_append, true_or, or_true, hm.c, I_hlf (e := e) (by omega), I_hlf (e := f) (by omega)]
      refine B_Model_mayJoin_56 ?_
      simp only [wp_cons, wp_nil, List.getElem?_cons_zero, List.getElem?_cons_succ, List.set_cons_zero, List.set_cons_succ, s_ireturn, p1_s, rI_i, rI_z, rI_c, z_01, z_11, rt_Model_mayJoin, true_and, and_true, Nat.le_refl, true_implies, forall_const, not_false_eq_true, false_implies, not_true_eq_false, reduceCtorEq, tl_s, tl_n, rf_s, List.cons_append, List.nil_append, true_or, or_true, hm.c, I_hlf (e := e) (by omega), I_hlf (e := f) (by omega)]
      exact hF (fun q => by have := q.2.2.2.2.1; omega)
  · refine B_Model_mayJoin_10 ?_
    simp only [wp_cons, wp_nil, List.getElem?_cons_zero, List.getElem?_cons_succ, List.set_cons_zero, List.set_cons_succ, s_if_icmp_ne, p2_s, true_and, and_true, Nat.le_refl, true_implies, forall_const, not_false_eq_true, false_implies, not_true_eq_false, reduceCtorEq, tl_s, tl_n, rf_s, List.cons_append, List.nil_append, true_or, or_true, hm.c, I_hlf (e := e) (by omega), I_hlf (e := f) (by omega)]
    refine b_ne (by omega) (by omega) (fun cc => ?_) (fun cc => absurd cc (by omega))
    refine B_Model_mayJoin_55 ?_
    simp only [wp_cons, wp_nil, List.getElem?_cons_zero, List.getElem?_cons_succ, List.set_cons_zero, List.set_cons_succ, s_iconst, true_and, and_true, Nat.le_refl, true_implies, forall_const, not_false_eq_true, false_implies, not_true_eq_false, reduceCtorEq, tl_s, tl_n, rf_s, List.cons_append, List.nil_append, true_or, or_true, hm.c, I_hlf (e := e) (by omega), I_hlf (e := f) (by omega)]
    refine B_Model_mayJoin_56 ?_
    simp only [wp_cons, wp_nil, List.getElem?_cons_zero, List.getElem?_cons_succ, List.set_cons_zero, List.set_cons_succ, s_ireturn, p1_s, rI_i, rI_z, rI_c, z_01, z_11, rt_Model_mayJoin, true_and, and_true, Nat.le_refl, true_implies, forall_const, not_false_eq_true, false_implies, not_true_eq_false, reduceCtorEq, tl_s, tl_n, rf_s, List.cons_append, List.nil_append, true_or, or_true, hm.c, I_hlf (e := e) (by omega), I_hlf (e := f) (by omega)]
    exact hF (fun q => c1 q.2.2.2.1)
/-- what has been found behind a place, from the end on: e - 1 and f - 1 are looked at next -/
def fji (Ss : List Stk) (r : Nat → Int) (e f : Nat) : Prop := (r 13 = -6 ∧ ∀ e' f' : Nat, (e < e' + 1 ∨ (e = e' + 1 ∧ f < f' + 1)) → ¬ jv Ss e' f') ∨ (∃ a b : Nat, r 13 = a ∧ r 14 = b ∧ jv Ss a b ∧ (e < a + 1 ∨ (e = a + 1 ∧ f < b + 1)) ∧ ∀ e' f' : Nat, (e < e' + 1 ∨ (e = e' + 1 ∧ f < f' + 1)) → jv Ss e' f' → 20 * a + b ≤ 20 * e' + f')
theorem fji.skip {Ss : List Stk} {r : Nat → Int} {e f : Nat} (h : fji Ss r (e + 1) (f + 1)) (hn : ¬ jv Ss e f) : fji Ss r (e + 1) f := by
  rcases h with ⟨h1, h3⟩ | ⟨a, b, h1, h2, h3, h5, h6⟩
  · refine Or.inl ⟨h1, fun e' f' c q => ?_⟩
    by_cases x : e' = e ∧ f' = f
    · obtain ⟨rfl, rfl⟩ := x; exact hn q
    · exact h3 e' f' (by omega) q
  · refine Or.inr ⟨a, b, h1, h2, h3, by omega, fun e' f' c q => ?_⟩
    by_cases x : e' = e ∧ f' = f
    · obtain ⟨rfl, rfl⟩ := x; exact absurd q hn
    · exact h6 e' f' (by omega) q
theorem fji.take {Ss : List Stk} {r r' : Nat → Int} {e f : Nat} (w : wfD Ss) (h : fji Ss r (e + 1) (f + 1)) (hv : jv Ss e f) (h1 : r' 13 = e) (h2 : r' 14 = f) : fji Ss r' (e + 1) f := by
  have a2 := wfD_e w hv.2.2.1
  refine Or.inr ⟨e, f, h1, h2, hv, by omega, fun e' f' c q => ?_⟩
  omega
theorem fji.row {Ss : List Stk} {r : Nat → Int} {e f : Nat} (h : fji Ss r (e + 1) f) (hf : f ≤ e + 1) : fji Ss r e (2 * Ss.length) := by
  have key : ∀ e' f' : Nat, jv Ss e' f' → (e < e' + 1 ∨ (e = e' + 1 ∧ 2 * Ss.length < f' + 1)) → (e + 1 < e' + 1 ∨ (e + 1 = e' + 1 ∧ f < f' + 1)) := fun e' f' q c => by
    have := q.1
    have := q.2.2.1.1
    omega
  rcases h with ⟨h1, h3⟩ | ⟨a, b, h1, h2, h3, h5, h6⟩
  · exact Or.inl ⟨h1, fun e' f' c q => h3 e' f' (key _ _ q c) q⟩
  · exact Or.inr ⟨a, b, h1, h2, h3, by omega, fun e' f' c q => h6 e' f' (key _ _ q c) q⟩
theorem fji.bd {Ss : List Stk} {r : Nat → Int} {e f : Nat} (w : wfD Ss) (h : fji Ss r e f) : r 13 = -6 ∨ (0 ≤ r 13 ∧ r 13 < 20) := by
  rcases h with ⟨h1, h3⟩ | ⟨a, b, h1, h2, h3, h5, h6⟩
  · omega
  · have a1 := wfD_e w h3.2.1
    omega
theorem Mdl_fj_c {d M : Nat} (d5 : 5 ≤ d) {st : Sta} {r0 : Nat → Int} {A : Nat → Nat → Int} {h0 : g_H} {Q : g_Po} (hm0 : mdl h0 M r0 A) (hr : stR (A 1) st) (w : wfD st.1)
    (hT : ∀ h' r' a b, chg M (M + 1) h0 h' → mdl h' M r' A → (∀ n, n ≠ 13 → n ≠ 14 → r' n = r0 n) → r' 13 = (a : Nat) → r' 14 = (b : Nat) → jb st.1 a b → Q (some (.int (I 1))) h')
    (hF : (¬ ∃ a b, jv st.1 a b) → ∀ h' r', chg M (M + 1) h0 h' → mdl h' M r' A → (∀ n, n ≠ 13 → n ≠ 14 → r' n = r0 n) → Q (some (.int (I 0))) h') : Call Model_findJoin d 0 0 [.ref M] h0 Q := by
  have d1 : 1 ≤ d := by omega
  have w0 := w.1
  have a0 : A 1 0 = st.1.length := hr.1
  have k0 := ex_ie (x := 0) (i := 0) (n := 352) rfl (by omega)
  have k0y := ex_iz (x := 0) (i := 0) (n := 352) rfl (by omega)
  have inner : ∀ (e : Nat), e < 2 * st.1.length → (∀ (h : g_H) (r : Nat → Int) (x2 : Option Value), chg M (M + 1) h0 h → mdl h M r A → (∀ n, n ≠ 13 → n ≠ 14 → r n = r0 n) → fji st.1 r e (2 * st.1.length) → G Model_findJoin d 0 0 0 0 17 [some (.ref M), some (.int (I ((e : Int) - 1))), x2] [] h Q) →
      ∀ (f : Nat) (h : g_H) (r : Nat → Int), f ≤ 2 * st.1.length → chg M (M + 1) h0 h → mdl h M r A → (∀ n, n ≠ 13 → n ≠ 14 → r n = r0 n) → fji st.1 r (e + 1) f → G Model_findJoin d 0 0 0 0 32 [some (.ref M), some (.int (I (e : Int))), some (.int (I ((f : Int) - 1)))] [] h Q := by
    intro e he hO f
    induction f with
    | zero =>
      intro h r hf hc hm hk hi
      refine B_Model_findJoin_32 ?_
      simp only [wp_cons, wp_nil, List.getElem?_cons_zero, List.getElem?_cons_succ, List.set_cons_zero, List.set_cons_succ, s_iload_n2, ldI_s, s_iload_n1, s_if_icmp_le, p2_s, true_and, and_true, Nat.le_refl, true_implies, forall_const, not_false_eq_true, false_implies, not_true_eq_false, reduceCtorEq, tl_s, tl_n, rf_s, List.cons_append, List.nil_append, true_or, or_true]
      refine b_le (by omega) (by omega) (fun cc => ?_) (fun cc => absurd cc (by omega))
      refine B_Model_findJoin_78 ?_
      simp only [wp_cons, wp_nil, List.getElem?_cons_zero, List.getElem?_cons_succ, List.set_cons_zero, List.set_cons_succ, s_iinc, ldI_s, s1_0, s1_s, kx_i, kx_r, kx_n, kx_l, kx_0, I_add, s_goto, true_and, and_true, Nat.le_refl, true_implies, forall_const, not_false_eq_true, false_implies, not_true_eq_false, reduceCtorEq, tl_s, tl_n, rf_s, List.cons_append, List.nil_append, true_or, or_true]
      exact hO h r _ hc hm hk (hi.row (by omega))
    | succ f ih =>
      intro h r hf hc hm hk hi
      rw [show ((f + 1 : Nat) : Int) - 1 = f by omega]
      by_cases c0 : f ≤ e
      · refine B_Model_findJoin_32 ?_
        simp only [wp_cons, wp_nil, List.getElem?_cons_zero, List.getElem?_cons_succ, List.set_cons_zero, List.set_cons_succ, s_iload_n2, ldI_s, s_iload_n1, s_if_icmp_le, p2_s, true_and, and_true, Nat.le_refl, true_implies, forall_const, not_false_eq_true, false_implies, not_true_eq_false, reduceCtorEq, tl_s, tl_n, rf_s, List.cons_append, List.nil_append, true_or, or_true]
        refine b_le (by omega) (by omega) (fun cc => ?_) (fun cc => absurd cc (by omega))
        refine B_Model_findJoin_78 ?_
        simp only [wp_cons, wp_nil, List.getElem?_cons_zero, List.getElem?_cons_succ, List.set_cons_zero, List.set_cons_succ, s_iinc, ldI_s, s1_0, s1_s, kx_i, kx_r, kx_n, kx_l, kx_0, I_add, s_goto, true_and, and_true, Nat.le_refl, true_implies, forall_const, not_false_eq_true, false_implies, not_true_eq_false, reduceCtorEq, tl_s, tl_n, rf_s, List.cons_append, List.nil_append, true_or, or_true]
        exact hO h r _ hc hm hk (hi.row (by omega))
      · have skip : ¬ jv st.1 e f → G Model_findJoin d 0 0 0 0 72 [some (.ref M), some (.int (I (e : Int))), some (.int (I (f : Int)))] [] h Q := by
          intro hn
          refine B_Model_findJoin_72 ?_
          simp only [wp_cons, wp_nil, List.getElem?_cons_zero, List.getElem?_cons_succ, List.set_cons_zero, List.set_cons_succ, s_iinc, ldI_s, s1_0, s1_s, kx_i, kx_r, kx_n, kx_l, kx_0, I_add, s_goto, true_and, and_true, Nat.le_refl, true_implies, forall_const, not_false_eq_true, false_implies, not_true_eq_false, reduceCtorEq, tl_s, tl_n, rf_s, List.cons_append, List.nil_append, true_or, or_true]
          exact ih h r (by omega) hc hm hk (hi.skip hn)
        refine B_Model_findJoin_32 ?_
        simp only [wp_cons, wp_nil, List.getElem?_cons_zero, List.getElem?_cons_succ, List.set_cons_zero, List.set_cons_succ, s_iload_n2, ldI_s, s_iload_n1, s_if_icmp_le, p2_s, true_and, and_true, Nat.le_refl, true_implies, forall_const, not_false_eq_true, false_implies, not_true_eq_false, reduceCtorEq, tl_s, tl_n, rf_s, List.cons_append, List.nil_append, true_or, or_true, hm.c]
        refine b_le (by omega) (by omega) (fun cc => absurd cc (by omega)) (fun cc => ?_)
        refine B_Model_findJoin_37 ?_
        simp only [wp_cons, wp_nil, List.getElem?_cons_zero, List.getElem?_cons_succ, List.set_cons_zero, List.set_cons_succ, s_aload_n0, ldA_r, ldA_n, s_iload_n1, ldI_s, s_invokevirtual, rc_s, ob_s, List.drop_succ_cons, List.drop_zero, List.take_succ_cons, List.take_zero, List.reverse_cons, List.reverse_nil, List.nil_append, List.cons_append, List.length_cons, List.length_nil, d1, Int.reduceToNat, Nat.reduceAdd, Nat.reduceLeDiff, true_and, and_true, Nat.le_refl, true_implies, forall_const, not_false_eq_true, false_implies, not_true_eq_false, reduceCtorEq, tl_s, tl_n, rf_s, true_or, or_true, hm.c]
        refine Mdl_isE_c (by omega) hm hr w he (fun z1 => ?_) (fun z1 => ?_)
        · refine B_Model_findJoin_42 ?_
          simp only [wp_cons, wp_nil, List.getElem?_cons_zero, List.getElem?_cons_succ, List.set_cons_zero, List.set_cons_succ, s_ifCond_eq, p1_s, true_and, and_true, Nat.le_refl, true_implies, forall_const, not_false_eq_true, false_implies, not_true_eq_false, reduceCtorEq, tl_s, tl_n, rf_s, List.cons_append, List.nil_append, true_or, or_true, hm.c]
          refine b_eq (by omega) (by omega) (fun cc => absurd cc (by omega)) (fun cc => ?_)
          refine B_Model_findJoin_45 ?_
          simp only [wp_cons, wp_nil, List.getElem?_cons_zero, List.getElem?_cons_succ, List.set_cons_zero, List.set_cons_succ, s_aload_n0, ldA_r, ldA_n, s_iload_n2, ldI_s, s_invokevirtual, rc_s, ob_s, List.drop_succ_cons, List.drop_zero, List.take_succ_cons, List.take_zero, List.reverse_cons, List.reverse_nil, List.nil_append, List.cons_append, List.length_cons, List.length_nil, d1, Int.reduceToNat, Nat.reduceAdd, Nat.reduceLeDiff, true_and, and_true, Nat.le_refl, true_implies, forall_const, not_false_eq_true, false_implies, not_true_eq_false, reduceCtorEq, tl_s, tl_n, rf_s, true_or, or_true, hm.c]
          refine Mdl_isE_c (by omega) hm hr w (by omega) (fun z2 => ?_) (fun z2 => ?_)
          · refine B_Model_findJoin_50 ?_
            simp only [wp_cons, wp_nil, List.getElem?_cons_zero, List.getElem?_cons_succ, List.set_cons_zero, List.set_cons_succ, s_ifCond_eq, p1_s, true_and, and_true, Nat.le_refl, true_implies, forall_const, not_false_eq_true, false_implies, not_true_eq_false, reduceCtorEq, tl_s, tl_n, rf_s, List.cons_append, List.nil_append, true_or, or_true, hm.c]
            refine b_eq (by omega) (by omega) (fun cc => absurd cc (by omega)) (fun cc => ?_)
            refine B_Model_findJoin_53 ?_
            simp only [wp_cons, wp_nil, List.getElem?_cons_zero, List.getElem?_cons_succ, List.set_cons_zero, List.set_cons_succ, s_aload_n0, ldA_r, ldA_n, s_iload_n1, ldI_s, s_iload_n2, s_invokevirtual, rc_s, ob_s, List.drop_succ_cons, List.drop_zero, List.take_succ_cons, List.take_zero, List.reverse_cons, List.reverse_nil, List.nil_append, List.cons_append, List.length_cons, List.length_nil, d1, Int.reduceToNat, Nat.reduceAdd, Nat.reduceLeDiff, true_and, and_true, Nat.le_refl, true_implies, forall_const, not_false_eq_true, false_implies, not_true_eq_false, reduceCtorEq, tl_s, tl_n, rf_s, true_or, or_true, hm.c]
            refine Mdl_mj_c (by omega) hm hr w ⟨he, z1⟩ ⟨by omega, z2⟩ (by omega) (fun c => ?_) (fun c => ?_)
            · have m1 := hm.f13 (e : Int)
              have m2 := m1.f14 (f : Int)
              refine B_Model_findJoin_59 ?_
              simp only [wp_cons, wp_nil, List.getElem?_cons_zero, List.getElem?_cons_succ, List.set_cons_zero, List.set_cons_succ, s_ifCond_eq, p1_s, true_and, and_true, Nat.le_refl, true_implies, forall_const, not_false_eq_true, false_implies, not_true_eq_false, reduceCtorEq, tl_s, tl_n, rf_s, List.cons_append, List.nil_append, true_or, or_true, hm.c, m1.c, Nat.reduceLT, Nat.reduceAdd]
              refine b_eq (by omega) (by omega) (fun cc => absurd cc (by omega)) (fun cc => ?_)
              refine B_Model_findJoin_62 ?_
              simp only [wp_cons, wp_nil, List.getElem?_cons_zero, List.getElem?_cons_succ, List.set_cons_zero, List.set_cons_succ, s_aload_n0, ldA_r, ldA_n, s_iload_n1, ldI_s, s_putfield, pv_i, pv_z, pv_r, pv_f, ob_s, z_01, z_11, List.length_cons, List.length_nil, s_iload_n2, true_and, and_true, Nat.le_refl, true_implies, forall_const, not_false_eq_true, false_implies, not_true_eq_false, reduceCtorEq, tl_s, tl_n, rf_s, List.cons_append, List.nil_append, true_or, or_true, hm.c, m1.c, Nat.reduceLT, Nat.reduceAdd]
              refine B_Model_findJoin_72 ?_
              simp only [wp_cons, wp_nil, List.getElem?_cons_zero, List.getElem?_cons_succ, List.set_cons_zero, List.set_cons_succ, s_iinc, ldI_s, s1_0, s1_s, kx_i, kx_r, kx_n, kx_l, kx_0, I_add, s_goto, true_and, and_true, Nat.le_refl, true_implies, forall_const, not_false_eq_true, false_implies, not_true_eq_false, reduceCtorEq, tl_s, tl_n, rf_s, List.cons_append, List.nil_append, true_or, or_true, hm.c, m1.c, Nat.reduceLT, Nat.reduceAdd]
              exact ih _ _ (by omega) ((hc.tr (chg.set _ (by omega))).tr (chg.set _ (by omega))) m2 (fun n h1 h2 => by rw [ui_n _ _ h2, ui_n _ _ h1, hk n h1 h2]) (hi.take w c (by rw [ui_n _ _ (by omega), ui_s]) (ui_s _ _ _))
            · refine B_Model_findJoin_59 ?_
              simp only [wp_cons, wp_nil, List.getElem?_cons_zero, List.getElem?_cons_succ, List.set_cons_zero, List.set_cons_succ, s_ifCond_eq, p1_s, true_and, and_true, Nat.le_refl, true_implies, forall_const, not_false_eq_true, false_implies, not_true_eq_false, reduceCtorEq, tl_s, tl_n, rf_s, List.cons_append, List.nil_append, true_or, or_true, hm.c]
              exact skip c
          · refine B_Model_findJoin_50 ?_
            simp only [wp_cons, wp_nil, List.getElem?_cons_zero, List.getElem?_cons_succ, List.set_cons_zero, List.set_cons_succ, s_ifCond_eq, p1_s, true_and, and_true, Nat.le_refl, true_implies, forall_const, not_false_eq_true, false_implies, not_true_eq_false, reduceCtorEq, tl_s, tl_n, rf_s, List.cons_append, List.nil_append, true_or, or_true, hm.c]
            exact skip (fun q => by have := q.2.2.1.2; rw [z2] at this; cases this)
        · refine B_Model_findJoin_42 ?_
          simp only [wp_cons, wp_nil, List.getElem?_cons_zero, List.getElem?_cons_succ, List.set_cons_zero, List.set_cons_succ, s_ifCond_eq, p1_s, true_and, and_true, Nat.le_refl, true_implies, forall_const, not_false_eq_true, false_implies, not_true_eq_false, reduceCtorEq, tl_s, tl_n, rf_s, List.cons_append, List.nil_append, true_or, or_true, hm.c]
          exact skip (fun q => by have := q.2.1.2; rw [z1] at this; cases this)
  have outer : ∀ (e : Nat) (h : g_H) (r : Nat → Int) (x2 : Option Value), e ≤ 2 * st.1.length → chg M (M + 1) h0 h → mdl h M r A → (∀ n, n ≠ 13 → n ≠ 14 → r n = r0 n) → fji st.1 r e (2 * st.1.length) → G Model_findJoin d 0 0 0 0 17 [some (.ref M), some (.int (I ((e : Int) - 1))), x2] [] h Q := by
    intro e
    induction e with
    | zero =>
      intro h r x2 he hc hm hk hi
      have hb := hi.bd w
      rcases hi with ⟨h1, h3⟩ | ⟨a, b, h1, h2, h3, h5, h6⟩
      · refine B_Model_findJoin_17 ?_
        simp only [wp_cons, wp_nil, List.getElem?_cons_zero, List.getElem?_cons_succ, List.set_cons_zero, List.set_cons_succ, s_iload_n1, ldI_s, s_ifCond_lt, p1_s, true_and, and_true, Nat.le_refl, true_implies, forall_const, not_false_eq_true, false_implies, not_true_eq_false, reduceCtorEq, tl_s, tl_n, rf_s, List.cons_append, List.nil_append, true_or, or_true, hm.c]
        refine b_lt (by omega) (by omega) (fun cc => ?_) (fun cc => absurd cc (by omega))
        refine B_Model_findJoin_84 ?_
        simp only [wp_cons, wp_nil, List.getElem?_cons_zero, List.getElem?_cons_succ, List.set_cons_zero, List.set_cons_succ, s_aload_n0, ldA_r, ldA_n, s_getfield, pR_s, ob_s, gt_s, s_bipush, s_if_icmp_eq, p2_s, true_and, and_true, Nat.le_refl, true_implies, forall_const, not_false_eq_true, false_implies, not_true_eq_false, reduceCtorEq, tl_s, tl_n, rf_s, List.cons_append, List.nil_append, true_or, or_true, hm.c]
        refine b_eq (by omega) (by omega) (fun cc => ?_) (fun cc => absurd cc (by omega))
        refine B_Model_findJoin_97 ?_
        simp only [wp_cons, wp_nil, List.getElem?_cons_zero, List.getElem?_cons_succ, List.set_cons_zero, List.set_cons_succ, s_iconst, true_and, and_true, Nat.le_refl, true_implies, forall_const, not_false_eq_true, false_implies, not_true_eq_false, reduceCtorEq, tl_s, tl_n, rf_s, List.cons_append, List.nil_append, true_or, or_true, hm.c]
        refine B_Model_findJoin_98 ?_
        simp only [wp_cons, wp_nil, List.getElem?_cons_zero, List.getElem?_cons_succ, List.set_cons_zero, List.set_cons_succ, s_ireturn, p1_s, rI_i, rI_z, rI_c, z_01, z_11, rt_Model_findJoin, true_and, and_true, Nat.le_refl, true_implies, forall_const, not_false_eq_true, false_implies, not_true_eq_false, reduceCtorEq, tl_s, tl_n, rf_s, List.cons_append, List.nil_append, true_or, or_true, hm.c]
        exact hF (fun q => by obtain ⟨a, b, q⟩ := q; exact h3 a b (Or.inl (by omega)) q) h r hc hm hk
      · refine B_Model_findJoin_17 ?_
        simp only [wp_cons, wp_nil, List.getElem?_cons_zero, List.getElem?_cons_succ, List.set_cons_zero, List.set_cons_succ, s_iload_n1, ldI_s, s_ifCond_lt, p1_s, true_and, and_true, Nat.le_refl, true_implies, forall_const, not_false_eq_true, false_implies, not_true_eq_false, reduceCtorEq, tl_s, tl_n, rf_s, List.cons_append, List.nil_append, true_or, or_true, hm.c]
        refine b_lt (by omega) (by omega) (fun cc => ?_) (fun cc => absurd cc (by omega))
        refine B_Model_findJoin_84 ?_
        simp only [wp_cons, wp_nil, List.getElem?_cons_zero, List.getElem?_cons_succ, List.set_cons_zero, List.set_cons_succ, s_aload_n0, ldA_r, ldA_n, s_getfield, pR_s, ob_s, gt_s, s_bipush, s_if_icmp_eq, p2_s, true_and, and_true, Nat.le_refl, true_implies, forall_const, not_false_eq_true, false_implies, not_true_eq_false, reduceCtorEq, tl_s, tl_n, rf_s, List.cons_append, List.nil_append, true_or, or_true, hm.c]
        refine b_eq (by omega) (by omega) (fun cc => absurd cc (by omega)) (fun cc => ?_)
        refine B_Model_findJoin_93 ?_
        simp only [wp_cons, wp_nil, List.getElem?_cons_zero, List.getElem?_cons_succ, List.set_cons_zero, List.set_cons_succ, s_iconst, s_goto, true_and, and_true, Nat.le_refl, true_implies, forall_const, not_false_eq_true, false_implies, not_true_eq_false, reduceCtorEq, tl_s, tl_n, rf_s, List.cons_append, List.nil_append, true_or, or_true, hm.c]
        refine B_Model_findJoin_98 ?_
        simp only [wp_cons, wp_nil, List.getElem?_cons_zero, List.getElem?_cons_succ, List.set_cons_zero, List.set_cons_succ, s_ireturn, p1_s, rI_i, rI_z, rI_c, z_01, z_11, rt_Model_findJoin, true_and, and_true, Nat.le_refl, true_implies, forall_const, not_false_eq_true, false_implies, not_true_eq_false, reduceCtorEq, tl_s, tl_n, rf_s, List.cons_append, List.nil_append, true_or, or_true, hm.c]
        exact hT h r a b hc hm hk h1 h2 ⟨h3, fun e' f' q => h6 e' f' (Or.inl (by omega)) q⟩
    | succ e ih =>
      intro h r x2 he hc hm hk hi
      rw [show ((e + 1 : Nat) : Int) - 1 = e by omega]
      refine B_Model_findJoin_17 ?_
      simp only [wp_cons, wp_nil, List.getElem?_cons_zero, List.getElem?_cons_succ, List.set_cons_zero, List.set_cons_succ, s_iload_n1, ldI_s, s_ifCond_lt, p1_s, true_and, and_true, Nat.le_refl, true_implies, forall_const, not_false_eq_true, false_implies, not_true_eq_false, reduceCtorEq, tl_s, tl_n, rf_s, List.cons_append, List.nil_append, true_or, or_true, hm.c, hm.g1, a0, k0, ex_ie]
      refine b_lt (by omega) (by omega) (fun cc => absurd cc (by omega)) (fun cc => ?_)
      refine B_Model_findJoin_21 ?_
      simp only [wp_cons, wp_nil, List.getElem?_cons_zero, List.getElem?_cons_succ, List.set_cons_zero, List.set_cons_succ, s_iconst, s_aload_n0, ldA_r, ldA_n, s_getfield, pR_s, ob_s, gt_s, s_iaload, iR_s, ia_s, s_imul, p2_s, I_mul, s_isub, I_sub, s_istore_n2, p1_s, s1_0, s1_s, kx_i, kx_r, kx_n, kx_l, kx_0, true_and, and_true, Nat.le_refl, true_implies, forall_const, not_false_eq_true, false_implies, not_true_eq_false, reduceCtorEq, tl_s, tl_n, rf_s, List.cons_append, List.nil_append, true_or, or_true, hm.c, hm.g1, a0, k0, ex_ie]
      rw [show (2 : Int) * (st.1.length : Int) - 1 = ((2 * st.1.length : Nat) : Int) - 1 by omega]
      exact inner e (by omega) (fun h r x2 hc hm hk hi => ih h r x2 (by omega) hc hm hk hi) (2 * st.1.length) h r (Nat.le_refl _) hc hm hk hi
  have m1 := hm0.f13 (-6)
  have g1 := m1.g1
  refine Call.intro (by rfl) (Nat.le_of_ble_eq_true rfl) ?_
  refine G.eqL (L := [some (.ref _), none, none]) rfl ?_
  refine B_Model_findJoin_0 ?_
  simp only [wp_cons, wp_nil, List.getElem?_cons_zero, List.getElem?_cons_succ, List.set_cons_zero, List.set_cons_succ, s_aload_n0, ldA_r, ldA_n, s_bipush, s_putfield, pv_i, pv_z, pv_r, pv_f, ob_s, z_01, z_11, List.length_cons, List.length_nil, s_iconst, s_getfield, pR_s, gt_s, s_iaload, iR_s, ia_s, s_imul, p2_s, I_mul, s_isub, I_sub, s_istore_n1, p1_s, s1_0, s1_s, kx_i, kx_r, kx_n, kx_l, kx_0, true_and, and_true, Nat.le_refl, true_implies, forall_const, not_false_eq_true, false_implies, not_true_eq_false, reduceCtorEq, tl_s, tl_n, rf_s, List.cons_append, List.nil_append, true_or, or_true, hm0.c, m1.c, g1, a0, k0, k0y, ex_ie, Nat.reduceLT, Nat.reduceAdd]
  rw [show (2 : Int) * (st.1.length : Int) - 1 = ((2 * st.1.length : Nat) : Int) - 1 by omega]
  exact outer (2 * st.1.length) _ _ _ (Nat.le_refl _) (chg.set _ (by omega)) m1 (fun n h1 _ => ui_n _ _ h1) (Or.inl ⟨ui_s _ _ _, fun e' f' c q => by have := q.1; have := q.2.2.1.1; omega⟩)
