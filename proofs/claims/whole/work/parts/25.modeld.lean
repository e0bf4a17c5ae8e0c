/-! ===== the reference: the pen ===== -/
/-! blocks of Model_down -/
theorem ml_Model_down : (g_m Model_down).2.2.1 = 3 := rfl
theorem rt_Model_down : (g_m Model_down).2.2.2.1 = (some .int) := rfl
theorem B_Model_down_0 {d mc ms cs ss : Nat} {L : List (Option Value)} {st : List Value} {h : g_H} {Q : g_Po} (hw : g_wp Model_down d mc ms Q 5 [(0, 1, 0, 0, 0, 0, .iload_n 1), (1, 1, 0, 0, 0, 0, .iload_n 2), (2, 3, 112, 0, 3213, 2, .invokestatic 77)] cs ss L st h) : G Model_down d mc ms cs ss 0 L st h Q := G.run (by decide +kernel) hw
theorem B_Model_down_5 {d mc ms cs ss : Nat} {L : List (Option Value)} {st : List Value} {h : g_H} {Q : g_Po} (hw : g_wp Model_down d mc ms Q 8 [(5, 3, 11, 0, 0, 0, .ifCond .ne 6)] cs ss L st h) : G Model_down d mc ms cs ss 5 L st h Q := G.run (by decide +kernel) hw
theorem B_Model_down_8 {d mc ms cs ss : Nat} {L : List (Option Value)} {st : List Value} {h : g_H} {Q : g_Po} (hw : g_wp Model_down d mc ms Q 11 [(8, 2, 0, 0, 0, (-2), .bipush (-2)), (10, 1, 0, 0, 0, 0, .ireturn)] cs ss L st h) : G Model_down d mc ms cs ss 8 L st h Q := G.run (by decide +kernel) hw
theorem B_Model_down_11 {d mc ms cs ss : Nat} {L : List (Option Value)} {st : List Value} {h : g_H} {Q : g_Po} (hw : g_wp Model_down d mc ms Q 20 [(11, 1, 0, 0, 0, 0, .aload_n 0), (12, 3, 7, 0, 3145, 2, .getfield 7), (15, 1, 0, 0, 0, 1, .iconst 1), (16, 1, 0, 0, 0, 0, .iaload), (17, 3, 23, 0, 0, 0, .ifCond .le 6)] cs ss L st h) : G Model_down d mc ms cs ss 11 L st h Q := G.run (by decide +kernel) hw
theorem B_Model_down_20 {d mc ms cs ss : Nat} {L : List (Option Value)} {st : List Value} {h : g_H} {Q : g_Po} (hw : g_wp Model_down d mc ms Q 23 [(20, 2, 0, 0, 0, (-3), .bipush (-3)), (22, 1, 0, 0, 0, 0, .ireturn)] cs ss L st h) : G Model_down d mc ms cs ss 20 L st h Q := G.run (by decide +kernel) hw
theorem B_Model_down_23 {d mc ms cs ss : Nat} {L : List (Option Value)} {st : List Value} {h : g_H} {Q : g_Po} (hw : g_wp Model_down d mc ms Q 34 [(23, 1, 0, 0, 0, 0, .aload_n 0), (24, 3, 7, 0, 3145, 2, .getfield 7), (27, 1, 0, 0, 0, 0, .iconst 0), (28, 1, 0, 0, 0, 0, .iaload), (29, 2, 0, 0, 0, 10, .bipush 10), (31, 3, 37, 0, 0, 0, .if_icmp .ne 6)] cs ss L st h) : G Model_down d mc ms cs ss 23 L st h Q := G.run (by decide +kernel) hw
theorem B_Model_down_34 {d mc ms cs ss : Nat} {L : List (Option Value)} {st : List Value} {h : g_H} {Q : g_Po} (hw : g_wp Model_down d mc ms Q 37 [(34, 2, 0, 0, 0, (-4), .bipush (-4)), (36, 1, 0, 0, 0, 0, .ireturn)] cs ss L st h) : G Model_down d mc ms cs ss 34 L st h Q := G.run (by decide +kernel) hw
theorem B_Model_down_37 {d mc ms cs ss : Nat} {L : List (Option Value)} {st : List Value} {h : g_H} {Q : g_Po} (hw : g_wp Model_down d mc ms Q 41 [(37, 1, 0, 0, 0, 0, .aload_n 0), (38, 3, 110, 7, 3222, 0, .invokevirtual 81)] cs ss L st h) : G Model_down d mc ms cs ss 37 L st h Q := G.run (by decide +kernel) hw
theorem B_Model_down_41 {d mc ms cs ss : Nat} {L : List (Option Value)} {st : List Value} {h : g_H} {Q : g_Po} (hw : g_wp Model_down d mc ms Q 51 [(41, 1, 0, 0, 0, 0, .aload_n 0), (42, 3, 7, 0, 3145, 2, .getfield 7), (45, 1, 0, 0, 0, 2, .iconst 2), (46, 1, 0, 0, 0, 0, .iload_n 1), (47, 1, 0, 0, 0, 0, .iload_n 2), (48, 3, 113, 0, 3229, 2, .invokestatic 84)] cs ss L st h) : G Model_down d mc ms cs ss 41 L st h Q := G.run (by decide +kernel) hw
theorem B_Model_down_51 {d mc ms cs ss : Nat} {L : List (Option Value)} {st : List Value} {h : g_H} {Q : g_Po} (hw : g_wp Model_down d mc ms Q 66 [(51, 1, 0, 0, 0, 0, .iastore), (52, 1, 0, 0, 0, 0, .aload_n 0), (53, 3, 7, 0, 3145, 2, .getfield 7), (56, 1, 0, 0, 0, 1, .iconst 1), (57, 1, 0, 0, 0, 1, .iconst 1), (58, 1, 0, 0, 0, 0, .iastore), (59, 1, 0, 0, 0, 0, .aload_n 0), (60, 3, 7, 0, 3145, 2, .getfield 7), (63, 1, 0, 0, 0, 0, .iconst 0), (64, 1, 0, 0, 0, 0, .iaload), (65, 1, 0, 0, 0, 0, .ireturn)] cs ss L st h) : G Model_down d mc ms cs ss 51 L st h Q := G.run (by decide +kernel) hw
/-! blocks of Model_draw -/
theorem ml_Model_draw : (g_m Model_draw).2.2.1 = 4 := rfl
theorem rt_Model_draw : (g_m Model_draw).2.2.2.1 = (some .int) := rfl
theorem B_Model_draw_0 {d mc ms cs ss : Nat} {L : List (Option Value)} {st : List Value} {h : g_H} {Q : g_Po} (hw : g_wp Model_draw d mc ms Q 5 [(0, 1, 0, 0, 0, 0, .iload_n 1), (1, 1, 0, 0, 0, 0, .iload_n 2), (2, 3, 112, 0, 3213, 2, .invokestatic 77)] cs ss L st h) : G Model_draw d mc ms cs ss 0 L st h Q := G.run (by decide +kernel) hw
theorem B_Model_draw_5 {d mc ms cs ss : Nat} {L : List (Option Value)} {st : List Value} {h : g_H} {Q : g_Po} (hw : g_wp Model_draw d mc ms Q 8 [(5, 3, 11, 0, 0, 0, .ifCond .ne 6)] cs ss L st h) : G Model_draw d mc ms cs ss 5 L st h Q := G.run (by decide +kernel) hw
theorem B_Model_draw_8 {d mc ms cs ss : Nat} {L : List (Option Value)} {st : List Value} {h : g_H} {Q : g_Po} (hw : g_wp Model_draw d mc ms Q 11 [(8, 2, 0, 0, 0, (-2), .bipush (-2)), (10, 1, 0, 0, 0, 0, .ireturn)] cs ss L st h) : G Model_draw d mc ms cs ss 8 L st h Q := G.run (by decide +kernel) hw
theorem B_Model_draw_11 {d mc ms cs ss : Nat} {L : List (Option Value)} {st : List Value} {h : g_H} {Q : g_Po} (hw : g_wp Model_draw d mc ms Q 22 [(11, 1, 0, 0, 0, 0, .aload_n 0), (12, 3, 7, 0, 3145, 2, .getfield 7), (15, 1, 0, 0, 0, 1, .iconst 1), (16, 1, 0, 0, 0, 0, .iaload), (17, 1, 0, 0, 0, 0, .istore_n 3), (18, 1, 0, 0, 0, 0, .iload_n 3), (19, 3, 40, 0, 0, 0, .ifCond .eq 21)] cs ss L st h) : G Model_draw d mc ms cs ss 11 L st h Q := G.run (by decide +kernel) hw
theorem B_Model_draw_22 {d mc ms cs ss : Nat} {L : List (Option Value)} {st : List Value} {h : g_H} {Q : g_Po} (hw : g_wp Model_draw d mc ms Q 37 [(22, 1, 0, 0, 0, 0, .aload_n 0), (23, 3, 7, 0, 3145, 2, .getfield 7), (26, 1, 0, 0, 0, 2, .iconst 2), (27, 1, 0, 0, 0, 0, .iload_n 3), (28, 1, 0, 0, 0, 0, .iadd), (29, 1, 0, 0, 0, 1, .iconst 1), (30, 1, 0, 0, 0, 0, .isub), (31, 1, 0, 0, 0, 0, .iaload), (32, 1, 0, 0, 0, 0, .iload_n 1), (33, 1, 0, 0, 0, 0, .iload_n 2), (34, 3, 113, 0, 3229, 2, .invokestatic 84)] cs ss L st h) : G Model_draw d mc ms cs ss 22 L st h Q := G.run (by decide +kernel) hw
theorem B_Model_draw_37 {d mc ms cs ss : Nat} {L : List (Option Value)} {st : List Value} {h : g_H} {Q : g_Po} (hw : g_wp Model_draw d mc ms Q 40 [(37, 3, 43, 0, 0, 0, .if_icmp .ne 6)] cs ss L st h) : G Model_draw d mc ms cs ss 37 L st h Q := G.run (by decide +kernel) hw
theorem B_Model_draw_40 {d mc ms cs ss : Nat} {L : List (Option Value)} {st : List Value} {h : g_H} {Q : g_Po} (hw : g_wp Model_draw d mc ms Q 43 [(40, 2, 0, 0, 0, (-3), .bipush (-3)), (42, 1, 0, 0, 0, 0, .ireturn)] cs ss L st h) : G Model_draw d mc ms cs ss 40 L st h Q := G.run (by decide +kernel) hw
theorem B_Model_draw_43 {d mc ms cs ss : Nat} {L : List (Option Value)} {st : List Value} {h : g_H} {Q : g_Po} (hw : g_wp Model_draw d mc ms Q 49 [(43, 1, 0, 0, 0, 0, .iload_n 3), (44, 2, 0, 0, 0, 30, .bipush 30), (46, 3, 52, 0, 0, 0, .if_icmp .ne 6)] cs ss L st h) : G Model_draw d mc ms cs ss 43 L st h Q := G.run (by decide +kernel) hw
theorem B_Model_draw_49 {d mc ms cs ss : Nat} {L : List (Option Value)} {st : List Value} {h : g_H} {Q : g_Po} (hw : g_wp Model_draw d mc ms Q 52 [(49, 2, 0, 0, 0, (-4), .bipush (-4)), (51, 1, 0, 0, 0, 0, .ireturn)] cs ss L st h) : G Model_draw d mc ms cs ss 49 L st h Q := G.run (by decide +kernel) hw
theorem B_Model_draw_52 {d mc ms cs ss : Nat} {L : List (Option Value)} {st : List Value} {h : g_H} {Q : g_Po} (hw : g_wp Model_draw d mc ms Q 56 [(52, 1, 0, 0, 0, 0, .aload_n 0), (53, 3, 110, 7, 3222, 0, .invokevirtual 81)] cs ss L st h) : G Model_draw d mc ms cs ss 52 L st h Q := G.run (by decide +kernel) hw
theorem B_Model_draw_56 {d mc ms cs ss : Nat} {L : List (Option Value)} {st : List Value} {h : g_H} {Q : g_Po} (hw : g_wp Model_draw d mc ms Q 68 [(56, 1, 0, 0, 0, 0, .aload_n 0), (57, 3, 7, 0, 3145, 2, .getfield 7), (60, 1, 0, 0, 0, 2, .iconst 2), (61, 1, 0, 0, 0, 0, .iload_n 3), (62, 1, 0, 0, 0, 0, .iadd), (63, 1, 0, 0, 0, 0, .iload_n 1), (64, 1, 0, 0, 0, 0, .iload_n 2), (65, 3, 113, 0, 3229, 2, .invokestatic 84)] cs ss L st h) : G Model_draw d mc ms cs ss 56 L st h Q := G.run (by decide +kernel) hw
theorem B_Model_draw_68 {d mc ms cs ss : Nat} {L : List (Option Value)} {st : List Value} {h : g_H} {Q : g_Po} (hw : g_wp Model_draw d mc ms Q 86 [(68, 1, 0, 0, 0, 0, .iastore), (69, 1, 0, 0, 0, 0, .aload_n 0), (70, 3, 7, 0, 3145, 2, .getfield 7), (73, 1, 0, 0, 0, 1, .iconst 1), (74, 1, 0, 0, 0, 0, .dup2), (75, 1, 0, 0, 0, 0, .iaload), (76, 1, 0, 0, 0, 1, .iconst 1), (77, 1, 0, 0, 0, 0, .iadd), (78, 1, 0, 0, 0, 0, .iastore), (79, 1, 0, 0, 0, 0, .aload_n 0), (80, 3, 7, 0, 3145, 2, .getfield 7), (83, 1, 0, 0, 0, 1, .iconst 1), (84, 1, 0, 0, 0, 0, .iaload), (85, 1, 0, 0, 0, 0, .ireturn)] cs ss L st h) : G Model_draw d mc ms cs ss 68 L st h Q := G.run (by decide +kernel) hw
/-! blocks of Model_lift -/
theorem ml_Model_lift : (g_m Model_lift).2.2.1 = 2 := rfl
theorem rt_Model_lift : (g_m Model_lift).2.2.2.1 = (some .int) := rfl
theorem B_Model_lift_0 {d mc ms cs ss : Nat} {L : List (Option Value)} {st : List Value} {h : g_H} {Q : g_Po} (hw : g_wp Model_lift d mc ms Q 9 [(0, 1, 0, 0, 0, 0, .aload_n 0), (1, 3, 7, 0, 3145, 2, .getfield 7), (4, 1, 0, 0, 0, 1, .iconst 1), (5, 1, 0, 0, 0, 0, .iaload), (6, 3, 12, 0, 0, 0, .ifCond .ne 6)] cs ss L st h) : G Model_lift d mc ms cs ss 0 L st h Q := G.run (by decide +kernel) hw
theorem B_Model_lift_9 {d mc ms cs ss : Nat} {L : List (Option Value)} {st : List Value} {h : g_H} {Q : g_Po} (hw : g_wp Model_lift d mc ms Q 12 [(9, 2, 0, 0, 0, (-3), .bipush (-3)), (11, 1, 0, 0, 0, 0, .ireturn)] cs ss L st h) : G Model_lift d mc ms cs ss 9 L st h Q := G.run (by decide +kernel) hw
theorem B_Model_lift_12 {d mc ms cs ss : Nat} {L : List (Option Value)} {st : List Value} {h : g_H} {Q : g_Po} (hw : g_wp Model_lift d mc ms Q 23 [(12, 1, 0, 0, 0, 0, .aload_n 0), (13, 3, 7, 0, 3145, 2, .getfield 7), (16, 1, 0, 0, 0, 0, .iconst 0), (17, 1, 0, 0, 0, 0, .iaload), (18, 2, 0, 0, 0, 10, .bipush 10), (20, 3, 36, 0, 0, 0, .if_icmp .ne 16)] cs ss L st h) : G Model_lift d mc ms cs ss 12 L st h Q := G.run (by decide +kernel) hw
theorem B_Model_lift_23 {d mc ms cs ss : Nat} {L : List (Option Value)} {st : List Value} {h : g_H} {Q : g_Po} (hw : g_wp Model_lift d mc ms Q 33 [(23, 1, 0, 0, 0, 0, .aload_n 0), (24, 3, 7, 0, 3145, 2, .getfield 7), (27, 1, 0, 0, 0, 1, .iconst 1), (28, 1, 0, 0, 0, 0, .iaload), (29, 1, 0, 0, 0, 2, .iconst 2), (30, 3, 36, 0, 0, 0, .if_icmp .lt 6)] cs ss L st h) : G Model_lift d mc ms cs ss 23 L st h Q := G.run (by decide +kernel) hw
theorem B_Model_lift_33 {d mc ms cs ss : Nat} {L : List (Option Value)} {st : List Value} {h : g_H} {Q : g_Po} (hw : g_wp Model_lift d mc ms Q 36 [(33, 2, 0, 0, 0, (-4), .bipush (-4)), (35, 1, 0, 0, 0, 0, .ireturn)] cs ss L st h) : G Model_lift d mc ms cs ss 33 L st h Q := G.run (by decide +kernel) hw
theorem B_Model_lift_36 {d mc ms cs ss : Nat} {L : List (Option Value)} {st : List Value} {h : g_H} {Q : g_Po} (hw : g_wp Model_lift d mc ms Q 40 [(36, 1, 0, 0, 0, 0, .aload_n 0), (37, 3, 110, 7, 3222, 0, .invokevirtual 81)] cs ss L st h) : G Model_lift d mc ms cs ss 36 L st h Q := G.run (by decide +kernel) hw
theorem B_Model_lift_40 {d mc ms cs ss : Nat} {L : List (Option Value)} {st : List Value} {h : g_H} {Q : g_Po} (hw : g_wp Model_lift d mc ms Q 52 [(40, 1, 0, 0, 0, 0, .aload_n 0), (41, 1, 0, 0, 0, 0, .aload_n 0), (42, 3, 7, 0, 3145, 2, .getfield 7), (45, 1, 0, 0, 0, 1, .iconst 1), (46, 1, 0, 0, 0, 0, .iaload), (47, 3, 7, 12, 3157, 0, .putfield 70), (50, 1, 0, 0, 0, 0, .iconst 0), (51, 1, 0, 0, 0, 0, .istore_n 1)] cs ss L st h) : G Model_lift d mc ms cs ss 40 L st h Q := G.run (by decide +kernel) hw
theorem B_Model_lift_52 {d mc ms cs ss : Nat} {L : List (Option Value)} {st : List Value} {h : g_H} {Q : g_Po} (hw : g_wp Model_lift d mc ms Q 60 [(52, 1, 0, 0, 0, 0, .iload_n 1), (53, 1, 0, 0, 0, 0, .aload_n 0), (54, 3, 7, 12, 3157, 0, .getfield 70), (57, 3, 80, 0, 0, 0, .if_icmp .ge 23)] cs ss L st h) : G Model_lift d mc ms cs ss 52 L st h Q := G.run (by decide +kernel) hw
theorem B_Model_lift_60 {d mc ms cs ss : Nat} {L : List (Option Value)} {st : List Value} {h : g_H} {Q : g_Po} (hw : g_wp Model_lift d mc ms Q 80 [(60, 1, 0, 0, 0, 0, .aload_n 0), (61, 3, 7, 11, 3156, 2, .getfield 34), (64, 1, 0, 0, 0, 0, .iload_n 1), (65, 1, 0, 0, 0, 0, .aload_n 0), (66, 3, 7, 0, 3145, 2, .getfield 7), (69, 1, 0, 0, 0, 2, .iconst 2), (70, 1, 0, 0, 0, 0, .iload_n 1), (71, 1, 0, 0, 0, 0, .iadd), (72, 1, 0, 0, 0, 0, .iaload), (73, 1, 0, 0, 0, 0, .iastore), (74, 3, 0, 0, 0, 1, .iinc 1 1), (77, 3, 52, 0, 0, 0, .goto (-25))] cs ss L st h) : G Model_lift d mc ms cs ss 60 L st h Q := G.run (by decide +kernel) hw
theorem B_Model_lift_80 {d mc ms cs ss : Nat} {L : List (Option Value)} {st : List Value} {h : g_H} {Q : g_Po} (hw : g_wp Model_lift d mc ms Q 82 [(80, 1, 0, 0, 0, 0, .iconst 0), (81, 1, 0, 0, 0, 0, .istore_n 1)] cs ss L st h) : G Model_lift d mc ms cs ss 80 L st h Q := G.run (by decide +kernel) hw
theorem B_Model_lift_82 {d mc ms cs ss : Nat} {L : List (Option Value)} {st : List Value} {h : g_H} {Q : g_Po} (hw : g_wp Model_lift d mc ms Q 88 [(82, 1, 0, 0, 0, 0, .iload_n 1), (83, 2, 0, 0, 0, 30, .bipush 30), (85, 3, 103, 0, 0, 0, .if_icmp .ge 18)] cs ss L st h) : G Model_lift d mc ms cs ss 82 L st h Q := G.run (by decide +kernel) hw
theorem B_Model_lift_88 {d mc ms cs ss : Nat} {L : List (Option Value)} {st : List Value} {h : g_H} {Q : g_Po} (hw : g_wp Model_lift d mc ms Q 103 [(88, 1, 0, 0, 0, 0, .aload_n 0), (89, 3, 7, 0, 3145, 2, .getfield 7), (92, 1, 0, 0, 0, 2, .iconst 2), (93, 1, 0, 0, 0, 0, .iload_n 1), (94, 1, 0, 0, 0, 0, .iadd), (95, 1, 0, 0, 0, 0, .iconst 0), (96, 1, 0, 0, 0, 0, .iastore), (97, 3, 0, 0, 0, 1, .iinc 1 1), (100, 3, 82, 0, 0, 0, .goto (-18))] cs ss L st h) : G Model_lift d mc ms cs ss 88 L st h Q := G.run (by decide +kernel) hw
theorem B_Model_lift_103 {d mc ms cs ss : Nat} {L : List (Option Value)} {st : List Value} {h : g_H} {Q : g_Po} (hw : g_wp Model_lift d mc ms Q 118 [(103, 1, 0, 0, 0, 0, .aload_n 0), (104, 3, 7, 0, 3145, 2, .getfield 7), (107, 1, 0, 0, 0, 1, .iconst 1), (108, 1, 0, 0, 0, 0, .iconst 0), (109, 1, 0, 0, 0, 0, .iastore), (110, 1, 0, 0, 0, 0, .aload_n 0), (111, 3, 7, 12, 3157, 0, .getfield 70), (114, 1, 0, 0, 0, 2, .iconst 2), (115, 3, 126, 0, 0, 0, .if_icmp .lt 11)] cs ss L st h) : G Model_lift d mc ms cs ss 103 L st h Q := G.run (by decide +kernel) hw
theorem B_Model_lift_118 {d mc ms cs ss : Nat} {L : List (Option Value)} {st : List Value} {h : g_H} {Q : g_Po} (hw : g_wp Model_lift d mc ms Q 123 [(118, 1, 0, 0, 0, 0, .aload_n 0), (119, 1, 0, 0, 0, 0, .iconst 0), (120, 3, 132, 7, 4000, 1, .invokevirtual 91)] cs ss L st h) : G Model_lift d mc ms cs ss 118 L st h Q := G.run (by decide +kernel) hw
theorem B_Model_lift_123 {d mc ms cs ss : Nat} {L : List (Option Value)} {st : List Value} {h : g_H} {Q : g_Po} (hw : g_wp Model_lift d mc ms Q 126 [(123, 3, 128, 0, 0, 0, .goto 5)] cs ss L st h) : G Model_lift d mc ms cs ss 123 L st h Q := G.run (by decide +kernel) hw
theorem B_Model_lift_126 {d mc ms cs ss : Nat} {L : List (Option Value)} {st : List Value} {h : g_H} {Q : g_Po} (hw : g_wp Model_lift d mc ms Q 128 [(126, 2, 0, 0, 0, (-6), .bipush (-6))] cs ss L st h) : G Model_lift d mc ms cs ss 126 L st h Q := G.run (by decide +kernel) hw
theorem B_Model_lift_128 {d mc ms cs ss : Nat} {L : List (Option Value)} {st : List Value} {h : g_H} {Q : g_Po} (hw : g_wp Model_lift d mc ms Q 129 [(128, 1, 0, 0, 0, 0, .ireturn)] cs ss L st h) : G Model_lift d mc ms cs ss 128 L st h Q := G.run (by decide +kernel) hw
/-! blocks of Model_line -/
theorem ml_Model_line : (g_m Model_line).2.2.1 = 1 := rfl
theorem rt_Model_line : (g_m Model_line).2.2.2.1 = (some .int) := rfl
theorem B_Model_line_0 {d mc ms cs ss : Nat} {L : List (Option Value)} {st : List Value} {h : g_H} {Q : g_Po} (hw : g_wp Model_line d mc ms Q 7 [(0, 1, 0, 0, 0, 0, .aload_n 0), (1, 3, 7, 0, 3145, 2, .getfield 7), (4, 1, 0, 0, 0, 1, .iconst 1), (5, 1, 0, 0, 0, 0, .iaload), (6, 1, 0, 0, 0, 0, .ireturn)] cs ss L st h) : G Model_line d mc ms cs ss 0 L st h Q := G.run (by decide +kernel) hw
theorem ex_iz {x : Int} {i n : Nat} (e : x = i) (h : i < n ∧ n < 2147483648) (P : Nat → Prop) : (∃ j : Nat, j < n ∧ I x = I (j : Int) ∧ P j) = P i := by
  rw [e]; exact ex_iy h P
theorem stR.pen {f f' : Nat → Int} {Ss : List Stk} {pn : Stk} {p : Int} {z : Bool} (hr : stR f (Ss, pn)) (hb : wfL Ss) (hpn : pn.1.length < 30) (h1 : f' 1 = (pn.1.length : Int) + 1) (h2 : f' (2 + pn.1.length) = p) (h3 : ∀ j, j ≠ 1 → j ≠ 2 + pn.1.length → f' j = f j) : stR f' (Ss, (pn.1 ++ [p], z)) := by
  obtain ⟨a1, a2, a3, a4⟩ := hr
  dsimp only at a1 a2 a3 a4
  refine ⟨(h3 0 (by omega) (by omega)).trans a1, ?_, fun k hk => ?_, fun s hs => ?_⟩
  · rw [h1]; simp
  · replace hk : k < (pn.1 ++ [p]).length := hk
    rw [List.length_append] at hk
    simp at hk
    show f' (2 + k) = pg (pn.1 ++ [p]) k
    by_cases e : k = pn.1.length
    · rw [e, h2, pg_app_r _ _ (Nat.le_refl _), Nat.sub_self]; rfl
    · rw [h3 _ (by omega) (by omega), a3 k (by omega), pg_app_l _ _ (by omega)]
  · obtain ⟨b1, b2, b3⟩ := a4 s hs
    exact ⟨(h3 _ (by omega) (by omega)).trans b1, (h3 _ (by omega) (by omega)).trans b2, fun k hk => (h3 _ (by omega) (by omega)).trans (b3 k hk)⟩
theorem Mdl_down_c {d M : Nat} (hd : 9 ≤ d) {W : Wd} {x y : Int} {h : g_H} {Q : g_Po} (w : wfW W) (hp : mrep h M W) (hx : i32 x) (hy : i32 y) (hQ : MQ9 M h Q (sp_down W x y)) : Call Model_down d 0 0 [.ref M, .int (I x), .int (I y)] h Q := by
  have d1 : 1 ≤ d := by omega
  obtain ⟨⟨Ss, pn⟩, Hs, T, l⟩ := W
  obtain ⟨r, A, hm, hs⟩ := id hp
  have a1 : A 1 0 = Ss.length := hs.1.1
  have a2 : A 1 1 = pn.1.length := hs.1.2.1
  have hlen := w.g.1.1
  have hpn := w.g.2.1.1
  have k0 := ex_ie (x := 0) (i := 0) (n := 352) rfl (by omega)
  have k1 := ex_ie (x := 1) (i := 1) (n := 352) rfl (by omega)
  have k2 := ex_ie (x := 2) (i := 2) (n := 352) rfl (by omega)
  unfold sp_down at hQ
  dsimp only at hQ
  refine Call.intro (by rfl) (Nat.le_of_ble_eq_true rfl) ?_
  refine G.eqL (L := [some (.ref _), some (.int _), some (.int _)]) rfl ?_
  refine B_Model_down_0 ?_
  simp only [wp_cons, wp_nil, List.getElem?_cons_zero, List.getElem?_cons_succ, List.set_cons_zero, List.set_cons_succ, s_iload_n1, ldI_s, s_iload_n2, s_invokestatic, rc_s, ob_s, List.drop_succ_cons, List.drop_zero, List.take_succ_cons, List.take_zero, List.reverse_cons, List.reverse_nil, List.nil_append, List.cons_append, List.length_cons, List.length_nil, Nat.reduceEqDiff, reduceIte, p1_s, p2_s, l1_s, d1, Int.reduceToNat, Nat.reduceAdd, Nat.reduceLeDiff, true_and, and_true, Nat.le_refl, true_implies, forall_const, not_false_eq_true, false_implies, not_true_eq_false, reduceCtorEq, tl_s, tl_n, rf_s, true_or, or_true, hm.c, hm.g1, a1, a2, k0, k1, ex_ie]
  refine Mdl_isPl_c (by omega) hx hy (fun c1 => ?_) (fun c1 => ?_)
  · rw [if_neg (fun q => q c1)] at hQ
    by_cases c2 : 0 < pn.1.length
    · rw [if_pos c2] at hQ
      refine B_Model_down_5 ?_
      simp only [wp_cons, wp_nil, List.getElem?_cons_zero, List.getElem?_cons_succ, List.set_cons_zero, List.set_cons_succ, s_ifCond_ne, p1_s, true_and, and_true, Nat.le_refl, true_implies, forall_const, not_false_eq_true, false_implies, not_true_eq_false, reduceCtorEq, tl_s, tl_n, rf_s, List.cons_append, List.nil_append, true_or, or_true, hm.c, hm.g1, a1, a2, k0, k1, ex_ie]
      refine b_ne (by omega) (by omega) (fun cc => ?_) (fun cc => absurd cc (by omega))
      refine B_Model_down_11 ?_
      simp only [wp_cons, wp_nil, List.getElem?_cons_zero, List.getElem?_cons_succ, List.set_cons_zero, List.set_cons_succ, s_aload_n0, ldA_r, ldA_n, s_getfield, pR_s, ob_s, gt_s, s_iconst, s_iaload, iR_s, ia_s, s_ifCond_le, p1_s, true_and, and_true, Nat.le_refl, true_implies, forall_const, not_false_eq_true, false_implies, not_true_eq_false, reduceCtorEq, tl_s, tl_n, rf_s, List.cons_append, List.nil_append, true_or, or_true, hm.c, hm.g1, a1, a2, k0, k1, ex_ie]
      refine b_le (by omega) (by omega) (fun cc => absurd cc (by omega)) (fun cc => ?_)
      refine B_Model_down_20 ?_
      simp only [wp_cons, wp_nil, List.getElem?_cons_zero, List.getElem?_cons_succ, List.set_cons_zero, List.set_cons_succ, s_bipush, s_ireturn, p1_s, rI_i, rI_z, rI_c, z_01, z_11, rt_Model_down, true_and, and_true, Nat.le_refl, true_implies, forall_const, not_false_eq_true, false_implies, not_true_eq_false, reduceCtorEq, tl_s, tl_n, rf_s, List.cons_append, List.nil_append, true_or, or_true, hm.c, hm.g1, a1, a2, k0, k1, ex_ie]
      exact hQ h chg.rf hp
    · rw [if_neg c2] at hQ
      by_cases c3 : 10 ≤ Ss.length
      · rw [if_pos c3] at hQ
        refine B_Model_down_5 ?_
        simp only [wp_cons, wp_nil, List.getElem?_cons_zero, List.getElem?_cons_succ, List.set_cons_zero, List.set_cons_succ, s_ifCond_ne, p1_s, true_and, and_true, Nat.le_refl, true_implies, forall_const, not_false_eq_true, false_implies, not_true_eq_false, reduceCtorEq, tl_s, tl_n, rf_s, List.cons_append, List.nil_append, true_or, or_true, hm.c, hm.g1, a1, a2, k0, k1, ex_ie]
        refine b_ne (by omega) (by omega) (fun cc => ?_) (fun cc => absurd cc (by omega))
        refine B_Model_down_11 ?_
        simp only [wp_cons, wp_nil, List.getElem?_cons_zero, List.getElem?_cons_succ, List.set_cons_zero, List.set_cons_succ, s_aload_n0, ldA_r, ldA_n, s_getfield, pR_s, ob_s, gt_s, s_iconst, s_iaload, iR_s, ia_s, s_ifCond_le, p1_s, true_and, and_true, Nat.le_refl, true_implies, forall_const, not_false_eq_true, false_implies, not_true_eq_false, reduceCtorEq, tl_s, tl_n, rf_s, List.cons_append, List.nil_append, true_or, or_true, hm.c, hm.g1, a1, a2, k0, k1, ex_ie]
        refine b_le (by omega) (by omega) (fun cc => ?_) (fun cc => absurd cc (by omega))
        refine B_Model_down_23 ?_
        simp only [wp_cons, wp_nil, List.getElem?_cons_zero, List.getElem?_cons_succ, List.set_cons_zero, List.set_cons_succ, s_aload_n0, ldA_r, ldA_n, s_getfield, pR_s, ob_s, gt_s, s_iconst, s_iaload, iR_s, ia_s, s_bipush, s_if_icmp_ne, p2_s, true_and, and_true, Nat.le_refl, true_implies, forall_const, not_false_eq_true, false_implies, not_true_eq_false, reduceCtorEq, tl_s, tl_n, rf_s, List.cons_append, List.nil_append, true_or, or_true, hm.c, hm.g1, a1, a2, k0, k1, ex_ie]
        refine b_ne (by omega) (by omega) (fun cc => absurd cc (by omega)) (fun cc => ?_)
        refine B_Model_down_34 ?_
        simp only [wp_cons, wp_nil, List.getElem?_cons_zero, List.getElem?_cons_succ, List.set_cons_zero, List.set_cons_succ, s_bipush, s_ireturn, p1_s, rI_i, rI_z, rI_c, z_01, z_11, rt_Model_down, true_and, and_true, Nat.le_refl, true_implies, forall_const, not_false_eq_true, false_implies, not_true_eq_false, reduceCtorEq, tl_s, tl_n, rf_s, List.cons_append, List.nil_append, true_or, or_true, hm.c, hm.g1, a1, a2, k0, k1, ex_ie]
        exact hQ h chg.rf hp
      · rw [if_neg c3] at hQ
        refine B_Model_down_5 ?_
        simp only [wp_cons, wp_nil, List.getElem?_cons_zero, List.getElem?_cons_succ, List.set_cons_zero, List.set_cons_succ, s_ifCond_ne, p1_s, true_and, and_true, Nat.le_refl, true_implies, forall_const, not_false_eq_true, false_implies, not_true_eq_false, reduceCtorEq, tl_s, tl_n, rf_s, List.cons_append, List.nil_append, true_or, or_true, hm.c, hm.g1, a1, a2, k0, k1, ex_ie]
        refine b_ne (by omega) (by omega) (fun cc => ?_) (fun cc => absurd cc (by omega))
        refine B_Model_down_11 ?_
        simp only [wp_cons, wp_nil, List.getElem?_cons_zero, List.getElem?_cons_succ, List.set_cons_zero, List.set_cons_succ, s_aload_n0, ldA_r, ldA_n, s_getfield, pR_s, ob_s, gt_s, s_iconst, s_iaload, iR_s, ia_s, s_ifCond_le, p1_s, true_and, and_true, Nat.le_refl, true_implies, forall_const, not_false_eq_true, false_implies, not_true_eq_false, reduceCtorEq, tl_s, tl_n, rf_s, List.cons_append, List.nil_append, true_or, or_true, hm.c, hm.g1, a1, a2, k0, k1, ex_ie]
        refine b_le (by omega) (by omega) (fun cc => ?_) (fun cc => absurd cc (by omega))
        refine B_Model_down_23 ?_
        simp only [wp_cons, wp_nil, List.getElem?_cons_zero, List.getElem?_cons_succ, List.set_cons_zero, List.set_cons_succ, s_aload_n0, ldA_r, ldA_n, s_getfield, pR_s, ob_s, gt_s, s_iconst, s_iaload, iR_s, ia_s, s_bipush, s_if_icmp_ne, p2_s, true_and, and_true, Nat.le_refl, true_implies, forall_const, not_false_eq_true, false_implies, not_true_eq_false, reduceCtorEq, tl_s, tl_n, rf_s, List.cons_append, List.nil_append, true_or, or_true, hm.c, hm.g1, a1, a2, k0, k1, ex_ie]
        refine b_ne (by omega) (by omega) (fun cc => ?_) (fun cc => absurd cc (by omega))
        refine B_Model_down_37 ?_
        simp only [wp_cons, wp_nil, List.getElem?_cons_zero, List.getElem?_cons_succ, List.set_cons_zero, List.set_cons_succ, s_aload_n0, ldA_r, ldA_n, s_invokevirtual, rc_s, ob_s, List.drop_succ_cons, List.drop_zero, List.take_succ_cons, List.take_zero, List.reverse_cons, List.reverse_nil, List.nil_append, List.cons_append, List.length_cons, List.length_nil, d1, Int.reduceToNat, Nat.reduceAdd, Nat.reduceLeDiff, true_and, and_true, Nat.le_refl, true_implies, forall_const, not_false_eq_true, false_implies, not_true_eq_false, reduceCtorEq, tl_s, tl_n, rf_s, true_or, or_true, hm.c, hm.g1, a1, a2, k0, k1, ex_ie]
        refine Mdl_rec_c (by omega) hm hs w (fun h1 r1 A1 c1' m1 e1 e2 s1 => ?_)
        refine B_Model_down_41 ?_
        simp only [wp_cons, wp_nil, List.getElem?_cons_zero, List.getElem?_cons_succ, List.set_cons_zero, List.set_cons_succ, s_aload_n0, ldA_r, ldA_n, s_getfield, pR_s, ob_s, gt_s, s_iconst, s_iload_n1, ldI_s, s_iload_n2, s_invokestatic, rc_s, List.drop_succ_cons, List.drop_zero, List.take_succ_cons, List.take_zero, List.reverse_cons, List.reverse_nil, List.nil_append, List.cons_append, List.length_cons, List.length_nil, Nat.reduceEqDiff, reduceIte, p1_s, p2_s, l1_s, d1, Int.reduceToNat, Nat.reduceAdd, Nat.reduceLeDiff, true_and, and_true, Nat.le_refl, true_implies, forall_const, not_false_eq_true, false_implies, not_true_eq_false, reduceCtorEq, tl_s, tl_n, rf_s, true_or, or_true, m1.c]
        refine Mdl_pt_c ?_
        have m2 := m1.a1 2 (1000 * x + y)
        have m3 := m2.a1 1 1
        have a3 : ua (ua A1 1 2 (1000 * x + y)) 1 1 1 1 0 = Ss.length := by rw [ua_s, ui_n _ _ (by omega), ua_s, ui_n _ _ (by omega), e2 1 (by omega), a1]
        refine B_Model_down_51 ?_
        simp only [wp_cons, wp_nil, List.getElem?_cons_zero, List.getElem?_cons_succ, List.set_cons_zero, List.set_cons_succ, s_iastore, iiR_s, ia_s, s_aload_n0, ldA_r, ldA_n, s_getfield, pR_s, ob_s, gt_s, s_iconst, s_iaload, iR_s, s_ireturn, p1_s, rI_i, rI_z, rI_c, z_01, z_11, rt_Model_down, true_and, and_true, Nat.le_refl, true_implies, forall_const, not_false_eq_true, false_implies, not_true_eq_false, reduceCtorEq, tl_s, tl_n, rf_s, List.cons_append, List.nil_append, true_or, or_true, m1.c, m1.g1, m2.c, m2.g1, m3.c, m3.g1, k0, k1, k2, upd_ui, a3, ex_ie]
        refine hQ _ ((c1'.tr (chg.set _ (by omega))).tr (chg.set _ (by omega))) ⟨_, _, m3, s1.s1 ?_ (fun n hn => by rw [ua_n _ _ _ (by omega), ua_n _ _ _ (by omega)]) rfl rfl⟩
        refine s1.1.pen w.g.1.l (by omega) ?_ ?_ (fun j h1 h2 => ?_)
        · rw [ua_s, ui_s]; omega
        · rw [ua_s, ui_n _ _ (by omega), ua_s, show 2 + pn.1.length = 2 by omega, ui_s]
        · rw [ua_s, ui_n _ _ h1, ua_s, ui_n _ _ (by omega)]
  · rw [if_pos c1] at hQ
    refine B_Model_down_5 ?_
    simp only [wp_cons, wp_nil, List.getElem?_cons_zero, List.getElem?_cons_succ, List.set_cons_zero, List.set_cons_succ, s_ifCond_ne, p1_s, true_and, and_true, Nat.le_refl, true_implies, forall_const, not_false_eq_true, false_implies, not_true_eq_false, reduceCtorEq, tl_s, tl_n, rf_s, List.cons_append, List.nil_append, true_or, or_true, hm.c, hm.g1, a1, a2, k0, k1, ex_ie]
    refine B_Model_down_8 ?_
    simp only [wp_cons, wp_nil, List.getElem?_cons_zero, List.getElem?_cons_succ, List.set_cons_zero, List.set_cons_succ, s_bipush, s_ireturn, p1_s, rI_i, rI_z, rI_c, z_01, z_11, rt_Model_down, true_and, and_true, Nat.le_refl, true_implies, forall_const, not_false_eq_true, false_implies, not_true_eq_false, reduceCtorEq, tl_s, tl_n, rf_s, List.cons_append, List.nil_append, true_or, or_true, hm.c, hm.g1, a1, a2, k0, k1, ex_ie]
    exact hQ h chg.rf hp
theorem Mdl_draw_c {d M : Nat} (hd : 9 ≤ d) {W : Wd} {x y : Int} {h : g_H} {Q : g_Po} (w : wfW W) (hp : mrep h M W) (hx : i32 x) (hy : i32 y) (hQ : MQ9 M h Q (sp_draw W x y)) : Call Model_draw d 0 0 [.ref M, .int (I x), .int (I y)] h Q := by
  have d1 : 1 ≤ d := by omega
  obtain ⟨⟨Ss, pn⟩, Hs, T, l⟩ := W
  obtain ⟨r, A, hm, hs⟩ := id hp
  have a1 : A 1 0 = Ss.length := hs.1.1
  have a2 : A 1 1 = pn.1.length := hs.1.2.1
  have hlen := w.g.1.1
  obtain ⟨v1, v2, v3, v4⟩ := w.g.2.1
  have k0 := ex_ie (x := 0) (i := 0) (n := 352) rfl (by omega)
  have k1 := ex_ie (x := 1) (i := 1) (n := 352) rfl (by omega)
  unfold sp_draw at hQ
  dsimp only at hQ
  refine Call.intro (by rfl) (Nat.le_of_ble_eq_true rfl) ?_
  refine G.eqL (L := [some (.ref _), some (.int _), some (.int _), none]) rfl ?_
  refine B_Model_draw_0 ?_
  simp only [wp_cons, wp_nil, List.getElem?_cons_zero, List.getElem?_cons_succ, List.set_cons_zero, List.set_cons_succ, s_iload_n1, ldI_s, s_iload_n2, s_invokestatic, rc_s, ob_s, List.drop_succ_cons, List.drop_zero, List.take_succ_cons, List.take_zero, List.reverse_cons, List.reverse_nil, List.nil_append, List.cons_append, List.length_cons, List.length_nil, Nat.reduceEqDiff, reduceIte, p1_s, p2_s, l1_s, d1, Int.reduceToNat, Nat.reduceAdd, Nat.reduceLeDiff, true_and, and_true, Nat.le_refl, true_implies, forall_const, not_false_eq_true, false_implies, not_true_eq_false, reduceCtorEq, tl_s, tl_n, rf_s, true_or, or_true, hm.c, hm.g1, a1, a2, k0, k1, ex_ie]
  refine Mdl_isPl_c (by omega) hx hy (fun c1 => ?_) (fun c1 => ?_)
  · rw [if_neg (fun q => q c1)] at hQ
    have c1b := pt_of c1
    by_cases c2 : pn.1.length = 0
    · rw [if_pos (Or.inl c2)] at hQ
      refine B_Model_draw_5 ?_
      simp only [wp_cons, wp_nil, List.getElem?_cons_zero, List.getElem?_cons_succ, List.set_cons_zero, List.set_cons_succ, s_ifCond_ne, p1_s, true_and, and_true, Nat.le_refl, true_implies, forall_const, not_false_eq_true, false_implies, not_true_eq_false, reduceCtorEq, tl_s, tl_n, rf_s, List.cons_append, List.nil_append, true_or, or_true, hm.c, hm.g1, a1, a2, k0, k1, ex_ie]
      refine b_ne (by omega) (by omega) (fun cc => ?_) (fun cc => absurd cc (by omega))
      refine B_Model_draw_11 ?_
      simp only [wp_cons, wp_nil, List.getElem?_cons_zero, List.getElem?_cons_succ, List.set_cons_zero, List.set_cons_succ, s_aload_n0, ldA_r, ldA_n, s_getfield, pR_s, ob_s, gt_s, s_iconst, s_iaload, iR_s, ia_s, s_istore_n3, p1_s, s1_0, s1_s, kx_i, kx_r, kx_n, kx_l, kx_0, s_iload_n3, ldI_s, s_ifCond_eq, true_and, and_true, Nat.le_refl, true_implies, forall_const, not_false_eq_true, false_implies, not_true_eq_false, reduceCtorEq, tl_s, tl_n, rf_s, List.cons_append, List.nil_append, true_or, or_true, hm.c, hm.g1, a1, a2, k0, k1, ex_ie]
      refine b_eq (by omega) (by omega) (fun cc => ?_) (fun cc => absurd cc (by omega))
      refine B_Model_draw_40 ?_
      simp only [wp_cons, wp_nil, List.getElem?_cons_zero, List.getElem?_cons_succ, List.set_cons_zero, List.set_cons_succ, s_bipush, s_ireturn, p1_s, rI_i, rI_z, rI_c, z_01, z_11, rt_Model_draw, true_and, and_true, Nat.le_refl, true_implies, forall_const, not_false_eq_true, false_implies, not_true_eq_false, reduceCtorEq, tl_s, tl_n, rf_s, List.cons_append, List.nil_append, true_or, or_true, hm.c, hm.g1, a1, a2, k0, k1, ex_ie]
      exact hQ h chg.rf hp
    · have v5 := v2 (pn.1.length - 1) (by omega)
      have a3 : A 1 (1 + pn.1.length) = pg pn.1 (pn.1.length - 1) := by
        have := hs.1.2.2.1 (pn.1.length - 1) (show pn.1.length - 1 < pn.1.length by omega)
        rw [← this]
        congr 1
        omega
      have k3 := ex_ie (x := 2 + (pn.1.length : Int) - 1) (i := 1 + pn.1.length) (n := 352) (by omega) (by omega)
      refine B_Model_draw_5 ?_
      simp only [wp_cons, wp_nil, List.getElem?_cons_zero, List.getElem?_cons_succ, List.set_cons_zero, List.set_cons_succ, s_ifCond_ne, p1_s, true_and, and_true, Nat.le_refl, true_implies, forall_const, not_false_eq_true, false_implies, not_true_eq_false, reduceCtorEq, tl_s, tl_n, rf_s, List.cons_append, List.nil_append, true_or, or_true, hm.c, hm.g1, a1, a2, k0, k1, k3, a3, ex_ie]
      refine b_ne (by omega) (by omega) (fun cc => ?_) (fun cc => absurd cc (by omega))
      refine B_Model_draw_11 ?_
      simp only [wp_cons, wp_nil, List.getElem?_cons_zero, List.getElem?_cons_succ, List.set_cons_zero, List.set_cons_succ, s_aload_n0, ldA_r, ldA_n, s_getfield, pR_s, ob_s, gt_s, s_iconst, s_iaload, iR_s, ia_s, s_istore_n3, p1_s, s1_0, s1_s, kx_i, kx_r, kx_n, kx_l, kx_0, s_iload_n3, ldI_s, s_ifCond_eq, true_and, and_true, Nat.le_refl, true_implies, forall_const, not_false_eq_true, false_implies, not_true_eq_false, reduceCtorEq, tl_s, tl_n, rf_s, List.cons_append, List.nil_append, true_or, or_true, hm.c, hm.g1, a1, a2, k0, k1, k3, a3, ex_ie]
      refine b_eq (by omega) (by omega) (fun cc => absurd cc (by omega)) (fun cc => ?_)
      refine B_Model_draw_22 ?_
      simp only [wp_cons, wp_nil, List.getElem?_cons_zero, List.getElem?_cons_succ, List.set_cons_zero, List.set_cons_succ, s_aload_n0, ldA_r, ldA_n, s_getfield, pR_s, ob_s, gt_s, s_iconst, s_iload_n3, ldI_s, s_iadd, p2_s, I_add, s_isub, I_sub, s_iaload, iR_s, ia_s, s_iload_n1, s_iload_n2, s_invokestatic, rc_s, List.drop_succ_cons, List.drop_zero, List.take_succ_cons, List.take_zero, List.reverse_cons, List.reverse_nil, List.nil_append, List.cons_append, List.length_cons, List.length_nil, Nat.reduceEqDiff, reduceIte, p1_s, l1_s, d1, Int.reduceToNat, Nat.reduceAdd, Nat.reduceLeDiff, true_and, and_true, Nat.le_refl, true_implies, forall_const, not_false_eq_true, false_implies, not_true_eq_false, reduceCtorEq, tl_s, tl_n, rf_s, true_or, or_true, hm.c, hm.g1, a1, a2, k0, k1, k3, a3, ex_ie]
      refine Mdl_pt_c ?_
      by_cases c4 : pg pn.1 (pn.1.length - 1) = 1000 * x + y
      · rw [if_pos (Or.inr c4)] at hQ
        refine B_Model_draw_37 ?_
        simp only [wp_cons, wp_nil, List.getElem?_cons_zero, List.getElem?_cons_succ, List.set_cons_zero, List.set_cons_succ, s_if_icmp_ne, p2_s, true_and, and_true, Nat.le_refl, true_implies, forall_const, not_false_eq_true, false_implies, not_true_eq_false, reduceCtorEq, tl_s, tl_n, rf_s, List.cons_append, List.nil_append, true_or, or_true, hm.c, hm.g1, a1, a2, k0, k1, k3, a3, ex_ie]
        refine b_ne (by omega) (by omega) (fun cc => absurd cc (by omega)) (fun cc => ?_)
        refine B_Model_draw_40 ?_
        simp only [wp_cons, wp_nil, List.getElem?_cons_zero, List.getElem?_cons_succ, List.set_cons_zero, List.set_cons_succ, s_bipush, s_ireturn, p1_s, rI_i, rI_z, rI_c, z_01, z_11, rt_Model_draw, true_and, and_true, Nat.le_refl, true_implies, forall_const, not_false_eq_true, false_implies, not_true_eq_false, reduceCtorEq, tl_s, tl_n, rf_s, List.cons_append, List.nil_append, true_or, or_true, hm.c, hm.g1, a1, a2, k0, k1, k3, a3, ex_ie]
        exact hQ h chg.rf hp
      · rw [if_neg (fun q => q.elim c2 c4)] at hQ
        by_cases c3 : 30 ≤ pn.1.length
        · rw [if_pos c3] at hQ
          refine B_Model_draw_37 ?_
          simp only [wp_cons, wp_nil, List.getElem?_cons_zero, List.getElem?_cons_succ, List.set_cons_zero, List.set_cons_succ, s_if_icmp_ne, p2_s, true_and, and_true, Nat.le_refl, true_implies, forall_const, not_false_eq_true, false_implies, not_true_eq_false, reduceCtorEq, tl_s, tl_n, rf_s, List.cons_append, List.nil_append, true_or, or_true, hm.c, hm.g1, a1, a2, k0, k1, k3, a3, ex_ie]
          refine b_ne (by omega) (by omega) (fun cc => ?_) (fun cc => absurd cc (by omega))
          refine B_Model_draw_43 ?_
          simp only [wp_cons, wp_nil, List.getElem?_cons_zero, List.getElem?_cons_succ, List.set_cons_zero, List.set_cons_succ, s_iload_n3, ldI_s, s_bipush, s_if_icmp_ne, p2_s, true_and, and_true, Nat.le_refl, true_implies, forall_const, not_false_eq_true, false_implies, not_true_eq_false, reduceCtorEq, tl_s, tl_n, rf_s, List.cons_append, List.nil_append, true_or, or_true, hm.c, hm.g1, a1, a2, k0, k1, k3, a3, ex_ie]
          refine b_ne (by omega) (by omega) (fun cc => absurd cc (by omega)) (fun cc => ?_)
          refine B_Model_draw_49 ?_
          simp only [wp_cons, wp_nil, List.getElem?_cons_zero, List.getElem?_cons_succ, List.set_cons_zero, List.set_cons_succ, s_bipush, s_ireturn, p1_s, rI_i, rI_z, rI_c, z_01, z_11, rt_Model_draw, true_and, and_true, Nat.le_refl, true_implies, forall_const, not_false_eq_true, false_implies, not_true_eq_false, reduceCtorEq, tl_s, tl_n, rf_s, List.cons_append, List.nil_append, true_or, or_true, hm.c, hm.g1, a1, a2, k0, k1, k3, a3, ex_ie]
          exact hQ h chg.rf hp
        · rw [if_neg c3] at hQ
          refine B_Model_draw_37 ?_
          simp only [wp_cons, wp_nil, List.getElem?_cons_zero, List.getElem?_cons_succ, List.set_cons_zero, List.set_cons_succ, s_if_icmp_ne, p2_s, true_and, and_true, Nat.le_refl, true_implies, forall_const, not_false_eq_true, false_implies, not_true_eq_false, reduceCtorEq, tl_s, tl_n, rf_s, List.cons_append, List.nil_append, true_or, or_true, hm.c, hm.g1, a1, a2, k0, k1, k3, a3, ex_ie]
          refine b_ne (by omega) (by omega) (fun cc => ?_) (fun cc => absurd cc (by omega))
          refine B_Model_draw_43 ?_
          simp only [wp_cons, wp_nil, List.getElem?_cons_zero, List.getElem?_cons_succ, List.set_cons_zero, List.set_cons_succ, s_iload_n3, ldI_s, s_bipush, s_if_icmp_ne, p2_s, true_and, and_true, Nat.le_refl, true_implies, forall_const, not_false_eq_true, false_implies, not_true_eq_false, reduceCtorEq, tl_s, tl_n, rf_s, List.cons_append, List.nil_append, true_or, or_true, hm.c, hm.g1, a1, a2, k0, k1, k3, a3, ex_ie]
          refine b_ne (by omega) (by omega) (fun cc => ?_) (fun cc => absurd cc (by omega))
          refine B_Model_draw_52 ?_
          simp only [wp_cons, wp_nil, List.getElem?_cons_zero, List.getElem?_cons_succ, List.set_cons_zero, List.set_cons_succ, s_aload_n0, ldA_r, ldA_n, s_invokevirtual, rc_s, ob_s, List.drop_succ_cons, List.drop_zero, List.take_succ_cons, List.take_zero, List.reverse_cons, List.reverse_nil, List.nil_append, List.cons_append, List.length_cons, List.length_nil, d1, Int.reduceToNat, Nat.reduceAdd, Nat.reduceLeDiff, true_and, and_true, Nat.le_refl, true_implies, forall_const, not_false_eq_true, false_implies, not_true_eq_false, reduceCtorEq, tl_s, tl_n, rf_s, true_or, or_true, hm.c, hm.g1, a1, a2, k0, k1, k3, a3, ex_ie]
          refine Mdl_rec_c (by omega) hm hs w (fun h1 r1 A1 c1' m1 e1 e2 s1 => ?_)
          refine B_Model_draw_56 ?_
          simp only [wp_cons, wp_nil, List.getElem?_cons_zero, List.getElem?_cons_succ, List.set_cons_zero, List.set_cons_succ, s_aload_n0, ldA_r, ldA_n, s_getfield, pR_s, ob_s, gt_s, s_iconst, s_iload_n3, ldI_s, s_iadd, p2_s, I_add, s_iload_n1, s_iload_n2, s_invokestatic, rc_s, List.drop_succ_cons, List.drop_zero, List.take_succ_cons, List.take_zero, List.reverse_cons, List.reverse_nil, List.nil_append, List.cons_append, List.length_cons, List.length_nil, Nat.reduceEqDiff, reduceIte, p1_s, l1_s, d1, Int.reduceToNat, Nat.reduceAdd, Nat.reduceLeDiff, true_and, and_true, Nat.le_refl, true_implies, forall_const, not_false_eq_true, false_implies, not_true_eq_false, reduceCtorEq, tl_s, tl_n, rf_s, true_or, or_true, m1.c]
          refine Mdl_pt_c ?_
          have m2 := m1.a1 (2 + pn.1.length) (1000 * x + y)
          have a4 : ua A1 1 (2 + pn.1.length) (1000 * x + y) 1 1 = pn.1.length := by rw [ua_s, ui_n _ _ (by omega), e2 1 (by omega), a2]
          have m3 := m2.a1 1 ((pn.1.length : Int) + 1)
          have a5 : ua (ua A1 1 (2 + pn.1.length) (1000 * x + y)) 1 1 ((pn.1.length : Int) + 1) 1 1 = (pn.1.length : Int) + 1 := by rw [ua_s, ui_s]
          have k4 := ex_ie (x := 2 + (pn.1.length : Int)) (i := 2 + pn.1.length) (n := 352) (by omega) (by omega)
          refine B_Model_draw_68 ?_
          simp only [wp_cons, wp_nil, List.getElem?_cons_zero, List.getElem?_cons_succ, List.set_cons_zero, List.set_cons_succ, s_iastore, iiR_s, ia_s, s_aload_n0, ldA_r, ldA_n, s_getfield, pR_s, ob_s, gt_s, s_iconst, s_dup2, p2v_s, s_iaload, iR_s, s_iadd, p2_s, I_add, s_ireturn, p1_s, rI_i, rI_z, rI_c, z_01, z_11, rt_Model_draw, true_and, and_true, Nat.le_refl, true_implies, forall_const, not_false_eq_true, false_implies, not_true_eq_false, reduceCtorEq, tl_s, tl_n, rf_s, List.cons_append, List.nil_append, true_or, or_true, m1.c, m1.g1, m2.c, m2.g1, m3.c, m3.g1, k1, k4, a4, a5, upd_ui, ex_ie]
          refine hQ _ ((c1'.tr (chg.set _ (by omega))).tr (chg.set _ (by omega))) ⟨_, _, m3, s1.s1 ?_ (fun n hn => by rw [ua_n _ _ _ (by omega), ua_n _ _ _ (by omega)]) rfl rfl⟩
          refine s1.1.pen w.g.1.l (by omega) ?_ ?_ (fun j h1 h2 => ?_)
          · rw [ua_s, ui_s]
          · rw [ua_s, ui_n _ _ (by omega), ua_s, ui_s]
          · rw [ua_s, ui_n _ _ h1, ua_s, ui_n _ _ h2]
  · rw [if_pos c1] at hQ
    refine B_Model_draw_5 ?_
    simp only [wp_cons, wp_nil, List.getElem?_cons_zero, List.getElem?_cons_succ, List.set_cons_zero, List.set_cons_succ, s_ifCond_ne, p1_s, true_and, and_true, Nat.le_refl, true_implies, forall_const, not_false_eq_true, false_implies, not_true_eq_false, reduceCtorEq, tl_s, tl_n, rf_s, List.cons_append, List.nil_append, true_or, or_true, hm.c, hm.g1, a1, a2, k0, k1, ex_ie]
    refine B_Model_draw_8 ?_
    simp only [wp_cons, wp_nil, List.getElem?_cons_zero, List.getElem?_cons_succ, List.set_cons_zero, List.set_cons_succ, s_bipush, s_ireturn, p1_s, rI_i, rI_z, rI_c, z_01, z_11, rt_Model_draw, true_and, and_true, Nat.le_refl, true_implies, forall_const, not_false_eq_true, false_implies, not_true_eq_false, reduceCtorEq, tl_s, tl_n, rf_s, List.cons_append, List.nil_append, true_or, or_true, hm.c, hm.g1, a1, a2, k0, k1, ex_ie]
    exact hQ h chg.rf hp
theorem Mdl_line_c {d M : Nat} {W : Wd} {h : g_H} {Q : g_Po} (hp : mrep h M W) (hQ : MQ9 M h Q (sp_line W)) : Call Model_line d 0 0 [.ref M] h Q := by
  obtain ⟨r, A, hm, hs⟩ := id hp
  have a2 : A 1 1 = W.1.2.1.length := hs.1.2.1
  have k1 := ex_ie (x := 1) (i := 1) (n := 352) rfl (by omega)
  refine Call.intro (by rfl) (Nat.le_of_ble_eq_true rfl) ?_
  refine G.eqL (L := [some (.ref _)]) rfl ?_
  refine B_Model_line_0 ?_
  simp only [wp_cons, wp_nil, List.getElem?_cons_zero, List.getElem?_cons_succ, List.set_cons_zero, List.set_cons_succ, s_aload_n0, ldA_r, ldA_n, s_getfield, pR_s, ob_s, gt_s, s_iconst, s_iaload, iR_s, ia_s, s_ireturn, p1_s, rI_i, rI_z, rI_c, z_01, z_11, rt_Model_line, true_and, and_true, Nat.le_refl, true_implies, forall_const, not_false_eq_true, false_implies, not_true_eq_false, reduceCtorEq, tl_s, tl_n, rf_s, List.cons_append, List.nil_append, true_or, or_true, hm.c, hm.g1, a2, k1, ex_ie]
  exact hQ h chg.rf hp
theorem Mdl_lift_c {d M : Nat} (hd : 9 ≤ d) {W : Wd} {h : g_H} {Q : g_Po} (w : wfW W) (hp : mrep h M W) (hQ : MQ9 M h Q (sp_lift W)) : Call Model_lift d 0 0 [.ref M] h Q := by
  have d1 : 1 ≤ d := by omega
  obtain ⟨⟨Ss, pn⟩, Hs, T, l⟩ := W
  obtain ⟨r, A, hm, hs⟩ := id hp
  have a1 : A 1 0 = Ss.length := hs.1.1
  have a2 : A 1 1 = pn.1.length := hs.1.2.1
  have hlen := w.g.1.1
  obtain ⟨v1, v2, v3, v4⟩ := w.g.2.1
  have k0 := ex_ie (x := 0) (i := 0) (n := 352) rfl (by omega)
  have k1 := ex_ie (x := 1) (i := 1) (n := 352) rfl (by omega)
  unfold sp_lift at hQ
  dsimp only at hQ
  have rest : ¬ pn.1.length = 0 → ¬ (2 ≤ pn.1.length ∧ 10 ≤ Ss.length) → G Model_lift d 0 0 0 0 36 [some (.ref M), none] [] h Q := by
    intro c1 c2
    rw [if_neg c1] at hQ
    refine B_Model_lift_36 ?_
    simp only [wp_cons, wp_nil, List.getElem?_cons_zero, List.getElem?_cons_succ, List.set_cons_zero, List.set_cons_succ, s_aload_n0, ldA_r, ldA_n, s_invokevirtual, rc_s, ob_s, List.drop_succ_cons, List.drop_zero, List.take_succ_cons, List.take_zero, List.reverse_cons, List.reverse_nil, List.nil_append, List.cons_append, List.length_cons, List.length_nil, d1, Int.reduceToNat, Nat.reduceAdd, Nat.reduceLeDiff, true_and, and_true, Nat.le_refl, true_implies, forall_const, not_false_eq_true, false_implies, not_true_eq_false, reduceCtorEq, tl_s, tl_n, rf_s, true_or, or_true, hm.c]
    refine Mdl_rec_c (by omega) hm hs w (fun h1 r1 A1 c1' m1 e1 e2 s1 => ?_)
    have b2 : A1 1 1 = pn.1.length := by rw [e2 1 (by omega), a2]
    have b3 : ∀ k, k < pn.1.length → A1 1 (2 + k) = pg pn.1 k := fun k hk => by rw [e2 1 (by omega)]; exact hs.1.2.2.1 k hk
    have mf := m1.f12 (pn.1.length : Int)
    have last : ∀ (hh : g_H) (A2 : Nat → Nat → Int), chg M (M + 10) h1 hh → mdl hh M (ui r1 12 (pn.1.length : Int)) A2 → (∀ n, n = 3 ∨ n = 4 ∨ n = 5 → A2 n = A1 n) → (∀ k, k < pn.1.length → A2 9 k = pg pn.1 k) → (∀ j, j < 2 ∨ 32 ≤ j → A2 1 j = A1 1 j) → G Model_lift d 0 0 0 0 103 [some (.ref M), some (.int (I 30))] [] hh Q := by
      intro hh A2 hc m2 e3 e4 e5
      have m3 := m2.a1 1 0
      have r12 : ui r1 12 (pn.1.length : Int) 12 = pn.1.length := ui_s _ _ _
      have st3 : stR (ua A2 1 1 0 1) (Ss, ([], false)) := by
        obtain ⟨b1, -, -, b4⟩ := s1.1
        dsimp only at b1 b4
        refine ⟨?_, ?_, fun k hk => absurd hk (by simp), fun s hs => ?_⟩
        · rw [ua_s, ui_n _ _ (by omega), e5 0 (by omega)]; exact b1
        · rw [ua_s, ui_s]; rfl
        · obtain ⟨c1, c2, c3⟩ := b4 s hs
          exact ⟨by rw [ua_s, ui_n _ _ (by omega), e5 _ (by omega)]; exact c1, by rw [ua_s, ui_n _ _ (by omega), e5 _ (by omega)]; exact c2, fun k hk => by rw [ua_s, ui_n _ _ (by omega), e5 _ (by omega)]; exact c3 k hk⟩
      by_cases c3 : 2 ≤ pn.1.length
      · rw [if_pos c3, if_neg (fun q => c2 ⟨c3, q⟩)] at hQ
        refine B_Model_lift_103 ?_
        simp only [wp_cons, wp_nil, List.getElem?_cons_zero, List.getElem?_cons_succ, List.set_cons_zero, List.set_cons_succ, s_aload_n0, ldA_r, ldA_n, s_getfield, pR_s, ob_s, gt_s, s_iconst, s_iastore, iiR_s, ia_s, s_if_icmp_lt, p2_s, true_and, and_true, Nat.le_refl, true_implies, forall_const, not_false_eq_true, false_implies, not_true_eq_false, reduceCtorEq, tl_s, tl_n, rf_s, List.cons_append, List.nil_append, true_or, or_true, m2.c, m2.g1, m3.c, k1, r12, upd_ui, ex_ie]
        refine b_lt (by omega) (by omega) (fun cc => absurd cc (by omega)) (fun cc => ?_)
        refine B_Model_lift_118 ?_
        simp only [wp_cons, wp_nil, List.getElem?_cons_zero, List.getElem?_cons_succ, List.set_cons_zero, List.set_cons_succ, s_aload_n0, ldA_r, ldA_n, s_iconst, s_invokevirtual, rc_s, ob_s, List.drop_succ_cons, List.drop_zero, List.take_succ_cons, List.take_zero, List.reverse_cons, List.reverse_nil, List.nil_append, List.cons_append, List.length_cons, List.length_nil, d1, Int.reduceToNat, Nat.reduceAdd, Nat.reduceLeDiff, true_and, and_true, Nat.le_refl, true_implies, forall_const, not_false_eq_true, false_implies, not_true_eq_false, reduceCtorEq, tl_s, tl_n, rf_s, true_or, or_true, m2.c, m2.g1, m3.c, k1, r12, upd_ui, ex_ie]
        refine Mdl_adds_c (z := false) (by omega) m3 (L := pn.1) ⟨r12, by omega, fun k hk => by rw [ua_n _ _ _ (by omega)]; exact e4 k hk⟩ v1 st3 (fun i hi => (w.g.1.2 i hi).2.1) (by show 0 ≤ 30; omega) (by omega) (fun h4 A4 c4 m4 e6 s4 => ?_)
        refine B_Model_lift_123 ?_
        simp only [wp_cons, wp_nil, List.getElem?_cons_zero, List.getElem?_cons_succ, List.set_cons_zero, List.set_cons_succ, s_goto, true_and, and_true, Nat.le_refl, true_implies, forall_const, not_false_eq_true, false_implies, not_true_eq_false, reduceCtorEq, tl_s, tl_n, rf_s, List.cons_append, List.nil_append, true_or, or_true, m2.c, m2.g1, m3.c, k1, r12, upd_ui, ex_ie]
        refine B_Model_lift_128 ?_
        simp only [wp_cons, wp_nil, List.getElem?_cons_zero, List.getElem?_cons_succ, List.set_cons_zero, List.set_cons_succ, s_ireturn, p1_s, rI_i, rI_z, rI_c, z_01, z_11, rt_Model_lift, true_and, and_true, Nat.le_refl, true_implies, forall_const, not_false_eq_true, false_implies, not_true_eq_false, reduceCtorEq, tl_s, tl_n, rf_s, List.cons_append, List.nil_append, true_or, or_true, m2.c, m2.g1, m3.c, k1, r12, upd_ui, ex_ie]
        refine hQ h4 (((c1'.tr hc).tr (chg.set _ (by omega))).tr c4) ⟨_, _, m4, s1.s1 ?_ (fun n hn => by rw [e6 n (by omega), ua_n _ _ _ (by omega), e3 n hn]) rfl rfl⟩
        rw [show pn = (pn.1, false) from Prod.ext rfl v4]
        exact s4
      · rw [if_neg c3] at hQ
        refine B_Model_lift_103 ?_
        simp only [wp_cons, wp_nil, List.getElem?_cons_zero, List.getElem?_cons_succ, List.set_cons_zero, List.set_cons_succ, s_aload_n0, ldA_r, ldA_n, s_getfield, pR_s, ob_s, gt_s, s_iconst, s_iastore, iiR_s, ia_s, s_if_icmp_lt, p2_s, true_and, and_true, Nat.le_refl, true_implies, forall_const, not_false_eq_true, false_implies, not_true_eq_false, reduceCtorEq, tl_s, tl_n, rf_s, List.cons_append, List.nil_append, true_or, or_true, m2.c, m2.g1, m3.c, k1, r12, upd_ui, ex_ie]
        refine b_lt (by omega) (by omega) (fun cc => ?_) (fun cc => absurd cc (by omega))
        refine B_Model_lift_126 ?_
        simp only [wp_cons, wp_nil, List.getElem?_cons_zero, List.getElem?_cons_succ, List.set_cons_zero, List.set_cons_succ, s_bipush, true_and, and_true, Nat.le_refl, true_implies, forall_const, not_false_eq_true, false_implies, not_true_eq_false, reduceCtorEq, tl_s, tl_n, rf_s, List.cons_append, List.nil_append, true_or, or_true, m2.c, m2.g1, m3.c, k1, r12, upd_ui, ex_ie]
        refine B_Model_lift_128 ?_
        simp only [wp_cons, wp_nil, List.getElem?_cons_zero, List.getElem?_cons_succ, List.set_cons_zero, List.set_cons_succ, s_ireturn, p1_s, rI_i, rI_z, rI_c, z_01, z_11, rt_Model_lift, true_and, and_true, Nat.le_refl, true_implies, forall_const, not_false_eq_true, false_implies, not_true_eq_false, reduceCtorEq, tl_s, tl_n, rf_s, List.cons_append, List.nil_append, true_or, or_true, m2.c, m2.g1, m3.c, k1, r12, upd_ui, ex_ie]
        exact hQ _ ((c1'.tr hc).tr (chg.set _ (by omega))) ⟨_, _, m3, s1.s1 st3 (fun n hn => by rw [ua_n _ _ _ (by omega), e3 n hn]) rfl rfl⟩
    have loop2 : ∀ (m k : Nat) (hh : g_H) (A2 : Nat → Nat → Int), k + m = 30 → chg M (M + 10) h1 hh → mdl hh M (ui r1 12 (pn.1.length : Int)) A2 → (∀ n, n = 3 ∨ n = 4 ∨ n = 5 → A2 n = A1 n) → (∀ k, k < pn.1.length → A2 9 k = pg pn.1 k) → (∀ j, j < 2 ∨ 32 ≤ j → A2 1 j = A1 1 j) → G Model_lift d 0 0 0 0 82 [some (.ref M), some (.int (I (k : Int)))] [] hh Q := by
      intro m
      induction m with
      | zero =>
        intro k hh A2 hk hc m2 e3 e4 e5
        obtain rfl : k = 30 := by omega
        refine B_Model_lift_82 ?_
        simp only [wp_cons, wp_nil, List.getElem?_cons_zero, List.getElem?_cons_succ, List.set_cons_zero, List.set_cons_succ, s_iload_n1, ldI_s, s_bipush, s_if_icmp_ge, p2_s, true_and, and_true, Nat.le_refl, true_implies, forall_const, not_false_eq_true, false_implies, not_true_eq_false, reduceCtorEq, tl_s, tl_n, rf_s, List.cons_append, List.nil_append, true_or, or_true, hm.c]
        refine b_le (by omega) (by omega) (fun cc => ?_) (fun cc => absurd cc (by omega))
        exact last hh A2 hc m2 e3 e4 e5
      | succ m ih =>
        intro k hh A2 hk hc m2 e3 e4 e5
        refine B_Model_lift_82 ?_
        simp only [wp_cons, wp_nil, List.getElem?_cons_zero, List.getElem?_cons_succ, List.set_cons_zero, List.set_cons_succ, s_iload_n1, ldI_s, s_bipush, s_if_icmp_ge, p2_s, true_and, and_true, Nat.le_refl, true_implies, forall_const, not_false_eq_true, false_implies, not_true_eq_false, reduceCtorEq, tl_s, tl_n, rf_s, List.cons_append, List.nil_append, true_or, or_true, m2.c, m2.g1, ex_ie (x := 2 + (k : Int)) (i := 2 + k) (n := 352) (by omega) (by omega), upd_ui]
        refine b_le (by omega) (by omega) (fun cc => absurd cc (by omega)) (fun cc => ?_)
        refine B_Model_lift_88 ?_
        simp only [wp_cons, wp_nil, List.getElem?_cons_zero, List.getElem?_cons_succ, List.set_cons_zero, List.set_cons_succ, s_aload_n0, ldA_r, ldA_n, s_getfield, pR_s, ob_s, gt_s, s_iconst, s_iload_n1, ldI_s, s_iadd, p2_s, I_add, s_iastore, iiR_s, ia_s, s_iinc, s1_0, s1_s, kx_i, kx_r, kx_n, kx_l, kx_0, s_goto, true_and, and_true, Nat.le_refl, true_implies, forall_const, not_false_eq_true, false_implies, not_true_eq_false, reduceCtorEq, tl_s, tl_n, rf_s, List.cons_append, List.nil_append, true_or, or_true, m2.c, m2.g1, ex_ie (x := 2 + (k : Int)) (i := 2 + k) (n := 352) (by omega) (by omega), upd_ui]
        exact ih (k + 1) _ _ (by omega) (hc.tr (chg.set _ (by omega))) (m2.a1 (2 + k) 0) (fun n hn => by rw [ua_n _ _ _ (by omega), e3 n hn]) (fun k hk => by rw [ua_n _ _ _ (by omega)]; exact e4 k hk) (fun j hj => by rw [ua_s, ui_n _ _ (by omega), e5 j hj])
    have loop1 : ∀ (m k : Nat) (hh : g_H) (A2 : Nat → Nat → Int), k + m = pn.1.length → chg M (M + 10) h1 hh → mdl hh M (ui r1 12 (pn.1.length : Int)) A2 → (∀ n, n ≠ 9 → A2 n = A1 n) → (∀ i, i < k → A2 9 i = pg pn.1 i) → G Model_lift d 0 0 0 0 52 [some (.ref M), some (.int (I (k : Int)))] [] hh Q := by
      intro m
      induction m with
      | zero =>
        intro k hh A2 hk hc m2 e3 e4
        obtain rfl : k = pn.1.length := by omega
        have r12 : ui r1 12 (pn.1.length : Int) 12 = pn.1.length := ui_s _ _ _
        refine B_Model_lift_52 ?_
        simp only [wp_cons, wp_nil, List.getElem?_cons_zero, List.getElem?_cons_succ, List.set_cons_zero, List.set_cons_succ, s_iload_n1, ldI_s, s_aload_n0, ldA_r, ldA_n, s_getfield, pR_s, ob_s, gt_s, s_if_icmp_ge, p2_s, true_and, and_true, Nat.le_refl, true_implies, forall_const, not_false_eq_true, false_implies, not_true_eq_false, reduceCtorEq, tl_s, tl_n, rf_s, List.cons_append, List.nil_append, true_or, or_true, m2.c, r12]
        refine b_le (by omega) (by omega) (fun cc => ?_) (fun cc => absurd cc (by omega))
        refine B_Model_lift_80 ?_
        simp only [wp_cons, wp_nil, List.getElem?_cons_zero, List.getElem?_cons_succ, List.set_cons_zero, List.set_cons_succ, s_iconst, s_istore_n1, p1_s, s1_0, s1_s, kx_i, kx_r, kx_n, kx_l, kx_0, true_and, and_true, Nat.le_refl, true_implies, forall_const, not_false_eq_true, false_implies, not_true_eq_false, reduceCtorEq, tl_s, tl_n, rf_s, List.cons_append, List.nil_append, true_or, or_true, m2.c, r12]
        exact loop2 30 0 hh A2 (by omega) hc m2 (fun n hn => e3 n (by omega)) e4 (fun j _ => by rw [e3 1 (by omega)])
      | succ m ih =>
        intro k hh A2 hk hc m2 e3 e4
        have r12 : ui r1 12 (pn.1.length : Int) 12 = pn.1.length := ui_s _ _ _
        refine B_Model_lift_52 ?_
        simp only [wp_cons, wp_nil, List.getElem?_cons_zero, List.getElem?_cons_succ, List.set_cons_zero, List.set_cons_succ, s_iload_n1, ldI_s, s_aload_n0, ldA_r, ldA_n, s_getfield, pR_s, ob_s, gt_s, s_if_icmp_ge, p2_s, true_and, and_true, Nat.le_refl, true_implies, forall_const, not_false_eq_true, false_implies, not_true_eq_false, reduceCtorEq, tl_s, tl_n, rf_s, List.cons_append, List.nil_append, true_or, or_true, m2.c, m2.g1, m2.g9, r12, ex_ix (i := k) (n := 64) (by omega), ex_ie (x := 2 + (k : Int)) (i := 2 + k) (n := 352) (by omega) (by omega), upd_ui]
        refine b_le (by omega) (by omega) (fun cc => absurd cc (by omega)) (fun cc => ?_)
        refine B_Model_lift_60 ?_
        simp only [wp_cons, wp_nil, List.getElem?_cons_zero, List.getElem?_cons_succ, List.set_cons_zero, List.set_cons_succ, s_aload_n0, ldA_r, ldA_n, s_getfield, pR_s, ob_s, gt_s, s_iload_n1, ldI_s, s_iconst, s_iadd, p2_s, I_add, s_iaload, iR_s, ia_s, s_iastore, iiR_s, s_iinc, s1_0, s1_s, kx_i, kx_r, kx_n, kx_l, kx_0, s_goto, true_and, and_true, Nat.le_refl, true_implies, forall_const, not_false_eq_true, false_implies, not_true_eq_false, reduceCtorEq, tl_s, tl_n, rf_s, List.cons_append, List.nil_append, true_or, or_true, m2.c, m2.g1, m2.g9, r12, ex_ix (i := k) (n := 64) (by omega), ex_ie (x := 2 + (k : Int)) (i := 2 + k) (n := 352) (by omega) (by omega), upd_ui]
        refine ih (k + 1) _ _ (by omega) (hc.tr (chg.set _ (by omega))) (m2.a9 k (A2 1 (2 + k))) (fun n hn => by rw [ua_n _ _ _ hn, e3 n hn]) (fun i hi => ?_)
        rw [ua_s]
        by_cases e : i = k
        · rw [e, ui_s, e3 1 (by omega), b3 k (by omega)]
        · rw [ui_n _ _ e, e4 i (by omega)]
    have k1y := ex_iz (x := 1) (i := 1) (n := 352) rfl (by omega)
    refine B_Model_lift_40 ?_
    simp only [wp_cons, wp_nil, List.getElem?_cons_zero, List.getElem?_cons_succ, List.set_cons_zero, List.set_cons_succ, s_aload_n0, ldA_r, ldA_n, s_getfield, pR_s, ob_s, gt_s, s_iconst, s_iaload, iR_s, ia_s, s_putfield, pv_i, pv_z, pv_r, pv_f, z_01, z_11, List.length_cons, List.length_nil, s_istore_n1, p1_s, s1_0, s1_s, kx_i, kx_r, kx_n, kx_l, kx_0, true_and, and_true, Nat.le_refl, true_implies, forall_const, not_false_eq_true, false_implies, not_true_eq_false, reduceCtorEq, tl_s, tl_n, rf_s, List.cons_append, List.nil_append, true_or, or_true, m1.c, m1.g1, b2, k1, k1y, ex_ie, Nat.reduceLT, Nat.reduceAdd]
    exact loop1 pn.1.length 0 _ A1 (by omega) (chg.set _ (by omega)) mf (fun n _ => rfl) (fun i hi => absurd hi (by omega))
  refine Call.intro (by rfl) (Nat.le_of_ble_eq_true rfl) ?_
  refine G.eqL (L := [some (.ref _), none]) rfl ?_
  by_cases c1 : pn.1.length = 0
  · rw [if_pos c1] at hQ
    refine B_Model_lift_0 ?_
    simp only [wp_cons, wp_nil, List.getElem?_cons_zero, List.getElem?_cons_succ, List.set_cons_zero, List.set_cons_succ, s_aload_n0, ldA_r, ldA_n, s_getfield, pR_s, ob_s, gt_s, s_iconst, s_iaload, iR_s, ia_s, s_ifCond_ne, p1_s, true_and, and_true, Nat.le_refl, true_implies, forall_const, not_false_eq_true, false_implies, not_true_eq_false, reduceCtorEq, tl_s, tl_n, rf_s, List.cons_append, List.nil_append, true_or, or_true, hm.c, hm.g1, a1, a2, k0, k1, ex_ie]
    refine b_ne (by omega) (by omega) (fun cc => absurd cc (by omega)) (fun cc => ?_)
    refine B_Model_lift_9 ?_
    simp only [wp_cons, wp_nil, List.getElem?_cons_zero, List.getElem?_cons_succ, List.set_cons_zero, List.set_cons_succ, s_bipush, s_ireturn, p1_s, rI_i, rI_z, rI_c, z_01, z_11, rt_Model_lift, true_and, and_true, Nat.le_refl, true_implies, forall_const, not_false_eq_true, false_implies, not_true_eq_false, reduceCtorEq, tl_s, tl_n, rf_s, List.cons_append, List.nil_append, true_or, or_true, hm.c, hm.g1, a1, a2, k0, k1, ex_ie]
    exact hQ h chg.rf hp
  by_cases c3 : Ss.length = 10
  · by_cases c2 : 2 ≤ pn.1.length
    · rw [if_neg c1, if_pos c2, if_pos (by omega)] at hQ
      refine B_Model_lift_0 ?_
      simp only [wp_cons, wp_nil, List.getElem?_cons_zero, List.getElem?_cons_succ, List.set_cons_zero, List.set_cons_succ, s_aload_n0, ldA_r, ldA_n, s_getfield, pR_s, ob_s, gt_s, s_iconst, s_iaload, iR_s, ia_s, s_ifCond_ne, p1_s, true_and, and_true, Nat.le_refl, true_implies, forall_const, not_false_eq_true, false_implies, not_true_eq_false, reduceCtorEq, tl_s, tl_n, rf_s, List.cons_append, List.nil_append, true_or, or_true, hm.c, hm.g1, a1, a2, k0, k1, ex_ie]
      refine b_ne (by omega) (by omega) (fun cc => ?_) (fun cc => absurd cc (by omega))
      refine B_Model_lift_12 ?_
      simp only [wp_cons, wp_nil, List.getElem?_cons_zero, List.getElem?_cons_succ, List.set_cons_zero, List.set_cons_succ, s_aload_n0, ldA_r, ldA_n, s_getfield, pR_s, ob_s, gt_s, s_iconst, s_iaload, iR_s, ia_s, s_bipush, s_if_icmp_ne, p2_s, true_and, and_true, Nat.le_refl, true_implies, forall_const, not_false_eq_true, false_implies, not_true_eq_false, reduceCtorEq, tl_s, tl_n, rf_s, List.cons_append, List.nil_append, true_or, or_true, hm.c, hm.g1, a1, a2, k0, k1, ex_ie]
      refine b_ne (by omega) (by omega) (fun cc => absurd cc (by omega)) (fun cc => ?_)
      refine B_Model_lift_23 ?_
      simp only [wp_cons, wp_nil, List.getElem?_cons_zero, List.getElem?_cons_succ, List.set_cons_zero, List.set_cons_succ, s_aload_n0, ldA_r, ldA_n, s_getfield, pR_s, ob_s, gt_s, s_iconst, s_iaload, iR_s, ia_s, s_if_icmp_lt, p2_s, true_and, and_true, Nat.le_refl, true_implies, forall_const, not_false_eq_true, false_implies, not_true_eq_false, reduceCtorEq, tl_s, tl_n, rf_s, List.cons_append, List.nil_append, true_or, or_true, hm.c, hm.g1, a1, a2, k0, k1, ex_ie]
      refine b_lt (by omega) (by omega) (fun cc => absurd cc (by omega)) (fun cc => ?_)
      refine B_Model_lift_33 ?_
      simp only [wp_cons, wp_nil, List.getElem?_cons_zero, List.getElem?_cons_succ, List.set_cons_zero, List.set_cons_succ, s_bipush, s_ireturn, p1_s, rI_i, rI_z, rI_c, z_01, z_11, rt_Model_lift, true_and, and_true, Nat.le_refl, true_implies, forall_const, not_false_eq_true, false_implies, not_true_eq_false, reduceCtorEq, tl_s, tl_n, rf_s, List.cons_append, List.nil_append, true_or, or_true, hm.c, hm.g1, a1, a2, k0, k1, ex_ie]
      exact hQ h chg.rf hp
    · refine B_Model_lift_0 ?_
      simp only [wp_cons, wp_nil, List.getElem?_cons_zero, List.getElem?_cons_succ, List.set_cons_zero, List.set_cons_succ, s_aload_n0, ldA_r, ldA_n, s_getfield, pR_s, ob_s, gt_s, s_iconst, s_iaload, iR_s, ia_s, s_ifCond_ne, p1_s, true_and, and_true, Nat.le_refl, true_implies, forall_const, not_false_eq_true, false_implies, not_true_eq_false, reduceCtorEq, tl_s, tl_n, rf_s, List.cons_append, List.nil_append, true_or, or_true, hm.c, hm.g1, a1, a2, k0, k1, ex_ie]
      refine b_ne (by omega) (by omega) (fun cc => ?_) (fun cc => absurd cc (by omega))
      refine B_Model_lift_12 ?_
      simp only [wp_cons, wp_nil, List.getElem?_cons_zero, List.getElem?_cons_succ, List.set_cons_zero, List.set_cons_succ, s_aload_n0, ldA_r, ldA_n, s_getfield, pR_s, ob_s, gt_s, s_iconst, s_iaload, iR_s, ia_s, s_bipush, s_if_icmp_ne, p2_s, true_and, and_true, Nat.le_refl, true_implies, forall_const, not_false_eq_true, false_implies, not_true_eq_false, reduceCtorEq, tl_s, tl_n, rf_s, List.cons_append, List.nil_append, true_or, or_true, hm.c, hm.g1, a1, a2, k0, k1, ex_ie]
      refine b_ne (by omega) (by omega) (fun cc => absurd cc (by omega)) (fun cc => ?_)
      refine B_Model_lift_23 ?_
      simp only [wp_cons, wp_nil, List.getElem?_cons_zero, List.getElem?_cons_succ, List.set_cons_zero, List.set_cons_succ, s_aload_n0, ldA_r, ldA_n, s_getfield, pR_s, ob_s, gt_s, s_iconst, s_iaload, iR_s, ia_s, s_if_icmp_lt, p2_s, true_and, and_true, Nat.le_refl, true_implies, forall_const, not_false_eq_true, false_implies, not_true_eq_false, reduceCtorEq, tl_s, tl_n, rf_s, List.cons_append, List.nil_append, true_or, or_true, hm.c, hm.g1, a1, a2, k0, k1, ex_ie]
      refine b_lt (by omega) (by omega) (fun cc => ?_) (fun cc => absurd cc (by omega))
      exact rest c1 (fun q => c2 q.1)
  · refine B_Model_lift_0 ?_
    simp only [wp_cons, wp_nil, List.getElem?_cons_zero, List.getElem?_cons_succ, List.set_cons_zero, List.set_cons_succ, s_aload_n0, ldA_r, ldA_n, s_getfield, pR_s, ob_s, gt_s, s_iconst, s_iaload, iR_s, ia_s, s_ifCond_ne, p1_s, true_and, and_true, Nat.le_refl, true_implies, forall_const, not_false_eq_true, false_implies, not_true_eq_false, reduceCtorEq, tl_s, tl_n, rf_s, List.cons_append, List.nil_append, true_or, or_true, hm.c, hm.g1, a1, a2, k0, k1, ex_ie]
    refine b_ne (by omega) (by omega) (fun cc => ?_) (fun cc => absurd cc (by omega))
    refine B_Model_lift_12 ?_
    simp only [wp_cons, wp_nil, List.getElem?_cons_zero, List.getElem?_cons_succ, List.set_cons_zero, List.set_cons_succ, s_aload_n0, ldA_r, ldA_n, s_getfield, pR_s, ob_s, gt_s, s_iconst, s_iaload, iR_s, ia_s, s_bipush, s_if_icmp_ne, p2_s, true_and, and_true, Nat.le_refl, true_implies, forall_const, not_false_eq_true, false_implies, not_true_eq_false, reduceCtorEq, tl_s, tl_n, rf_s, List.cons_append, List.nil_append, true_or, or_true, hm.c, hm.g1, a1, a2, k0, k1, ex_ie]
    refine b_ne (by omega) (by omega) (fun cc => ?_) (fun cc => absurd cc (by omega))
    exact rest c1 (fun q => by omega)
