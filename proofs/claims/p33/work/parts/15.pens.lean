/-! ===== the class's methods ===== -/
/-! blocks of Pens_down -/
theorem ml_Pens_down : (g_m Pens_down).2.2.1 = 3 := rfl
theorem rt_Pens_down : (g_m Pens_down).2.2.2.1 = (some .int) := rfl
theorem B_Pens_down_0 {d mc ms cs ss : Nat} {L : List (Option Value)} {st : List Value} {h : g_H} {Q : g_Po} (hw : g_wp Pens_down d mc ms Q 5 [(0, 1, 0, 0, 0, 0, .iload_n 1), (1, 1, 0, 0, 0, 0, .iload_n 2), (2, 3, 24, 0, 1172, 2, .invokestatic 64)] cs ss L st h) : G Pens_down d mc ms cs ss 0 L st h Q := G.run (by decide +kernel) hw
theorem B_Pens_down_5 {d mc ms cs ss : Nat} {L : List (Option Value)} {st : List Value} {h : g_H} {Q : g_Po} (hw : g_wp Pens_down d mc ms Q 8 [(5, 3, 11, 0, 0, 0, .ifCond .ne 6)] cs ss L st h) : G Pens_down d mc ms cs ss 5 L st h Q := G.run (by decide +kernel) hw
theorem B_Pens_down_8 {d mc ms cs ss : Nat} {L : List (Option Value)} {st : List Value} {h : g_H} {Q : g_Po} (hw : g_wp Pens_down d mc ms Q 11 [(8, 2, 0, 0, 0, (-2), .bipush (-2)), (10, 1, 0, 0, 0, 0, .ireturn)] cs ss L st h) : G Pens_down d mc ms cs ss 8 L st h Q := G.run (by decide +kernel) hw
theorem B_Pens_down_11 {d mc ms cs ss : Nat} {L : List (Option Value)} {st : List Value} {h : g_H} {Q : g_Po} (hw : g_wp Pens_down d mc ms Q 24 [(11, 1, 0, 0, 0, 0, .aload_n 0), (12, 3, 6, 0, 1137, 2, .getfield 10), (15, 3, 0, 1, 1057, 2, .getfield 70), (18, 3, 2, 1, 1035, 0, .getfield 73), (21, 3, 27, 0, 0, 0, .ifCond .le 6)] cs ss L st h) : G Pens_down d mc ms cs ss 11 L st h Q := G.run (by decide +kernel) hw
theorem B_Pens_down_24 {d mc ms cs ss : Nat} {L : List (Option Value)} {st : List Value} {h : g_H} {Q : g_Po} (hw : g_wp Pens_down d mc ms Q 27 [(24, 2, 0, 0, 0, (-3), .bipush (-3)), (26, 1, 0, 0, 0, 0, .ireturn)] cs ss L st h) : G Pens_down d mc ms cs ss 24 L st h Q := G.run (by decide +kernel) hw
theorem B_Pens_down_27 {d mc ms cs ss : Nat} {L : List (Option Value)} {st : List Value} {h : g_H} {Q : g_Po} (hw : g_wp Pens_down d mc ms Q 39 [(27, 1, 0, 0, 0, 0, .aload_n 0), (28, 3, 6, 0, 1137, 2, .getfield 10), (31, 3, 0, 2, 1059, 0, .getfield 76), (34, 2, 0, 0, 0, 10, .bipush 10), (36, 3, 42, 0, 0, 0, .if_icmp .lt 6)] cs ss L st h) : G Pens_down d mc ms cs ss 27 L st h Q := G.run (by decide +kernel) hw
theorem B_Pens_down_39 {d mc ms cs ss : Nat} {L : List (Option Value)} {st : List Value} {h : g_H} {Q : g_Po} (hw : g_wp Pens_down d mc ms Q 42 [(39, 2, 0, 0, 0, (-4), .bipush (-4)), (41, 1, 0, 0, 0, 0, .ireturn)] cs ss L st h) : G Pens_down d mc ms cs ss 39 L st h Q := G.run (by decide +kernel) hw
theorem B_Pens_down_42 {d mc ms cs ss : Nat} {L : List (Option Value)} {st : List Value} {h : g_H} {Q : g_Po} (hw : g_wp Pens_down d mc ms Q 53 [(42, 1, 0, 0, 0, 0, .aload_n 0), (43, 3, 6, 3, 1140, 2, .getfield 29), (46, 1, 0, 0, 0, 0, .aload_n 0), (47, 3, 6, 0, 1137, 2, .getfield 10), (50, 3, 7, 1, 1175, 1, .invokevirtual 77)] cs ss L st h) : G Pens_down d mc ms cs ss 42 L st h Q := G.run (by decide +kernel) hw
theorem B_Pens_down_53 {d mc ms cs ss : Nat} {L : List (Option Value)} {st : List Value} {h : g_H} {Q : g_Po} (hw : g_wp Pens_down d mc ms Q 65 [(53, 1, 0, 0, 0, 0, .aload_n 0), (54, 3, 6, 0, 1137, 2, .getfield 10), (57, 3, 0, 1, 1057, 2, .getfield 70), (60, 1, 0, 0, 0, 0, .iload_n 1), (61, 1, 0, 0, 0, 0, .iload_n 2), (62, 3, 25, 0, 1207, 2, .invokestatic 81)] cs ss L st h) : G Pens_down d mc ms cs ss 53 L st h Q := G.run (by decide +kernel) hw
theorem B_Pens_down_65 {d mc ms cs ss : Nat} {L : List (Option Value)} {st : List Value} {h : g_H} {Q : g_Po} (hw : g_wp Pens_down d mc ms Q 68 [(65, 3, 35, 2, 1210, 1, .invokevirtual 85)] cs ss L st h) : G Pens_down d mc ms cs ss 65 L st h Q := G.run (by decide +kernel) hw
theorem B_Pens_down_68 {d mc ms cs ss : Nat} {L : List (Option Value)} {st : List Value} {h : g_H} {Q : g_Po} (hw : g_wp Pens_down d mc ms Q 76 [(68, 1, 0, 0, 0, 0, .aload_n 0), (69, 3, 6, 0, 1137, 2, .getfield 10), (72, 3, 0, 2, 1059, 0, .getfield 76), (75, 1, 0, 0, 0, 0, .ireturn)] cs ss L st h) : G Pens_down d mc ms cs ss 68 L st h Q := G.run (by decide +kernel) hw
/-! blocks of Pens_draw -/
theorem ml_Pens_draw : (g_m Pens_draw).2.2.1 = 3 := rfl
theorem rt_Pens_draw : (g_m Pens_draw).2.2.2.1 = (some .int) := rfl
theorem B_Pens_draw_0 {d mc ms cs ss : Nat} {L : List (Option Value)} {st : List Value} {h : g_H} {Q : g_Po} (hw : g_wp Pens_draw d mc ms Q 5 [(0, 1, 0, 0, 0, 0, .iload_n 1), (1, 1, 0, 0, 0, 0, .iload_n 2), (2, 3, 24, 0, 1172, 2, .invokestatic 64)] cs ss L st h) : G Pens_draw d mc ms cs ss 0 L st h Q := G.run (by decide +kernel) hw
theorem B_Pens_draw_5 {d mc ms cs ss : Nat} {L : List (Option Value)} {st : List Value} {h : g_H} {Q : g_Po} (hw : g_wp Pens_draw d mc ms Q 8 [(5, 3, 11, 0, 0, 0, .ifCond .ne 6)] cs ss L st h) : G Pens_draw d mc ms cs ss 5 L st h Q := G.run (by decide +kernel) hw
theorem B_Pens_draw_8 {d mc ms cs ss : Nat} {L : List (Option Value)} {st : List Value} {h : g_H} {Q : g_Po} (hw : g_wp Pens_draw d mc ms Q 11 [(8, 2, 0, 0, 0, (-2), .bipush (-2)), (10, 1, 0, 0, 0, 0, .ireturn)] cs ss L st h) : G Pens_draw d mc ms cs ss 8 L st h Q := G.run (by decide +kernel) hw
theorem B_Pens_draw_11 {d mc ms cs ss : Nat} {L : List (Option Value)} {st : List Value} {h : g_H} {Q : g_Po} (hw : g_wp Pens_draw d mc ms Q 24 [(11, 1, 0, 0, 0, 0, .aload_n 0), (12, 3, 6, 0, 1137, 2, .getfield 10), (15, 3, 0, 1, 1057, 2, .getfield 70), (18, 3, 2, 1, 1035, 0, .getfield 73), (21, 3, 42, 0, 0, 0, .ifCond .eq 21)] cs ss L st h) : G Pens_draw d mc ms cs ss 11 L st h Q := G.run (by decide +kernel) hw
theorem B_Pens_draw_24 {d mc ms cs ss : Nat} {L : List (Option Value)} {st : List Value} {h : g_H} {Q : g_Po} (hw : g_wp Pens_draw d mc ms Q 34 [(24, 1, 0, 0, 0, 0, .aload_n 0), (25, 3, 6, 0, 1137, 2, .getfield 10), (28, 3, 0, 1, 1057, 2, .getfield 70), (31, 3, 40, 2, 1218, 0, .invokevirtual 89)] cs ss L st h) : G Pens_draw d mc ms cs ss 24 L st h Q := G.run (by decide +kernel) hw
theorem B_Pens_draw_34 {d mc ms cs ss : Nat} {L : List (Option Value)} {st : List Value} {h : g_H} {Q : g_Po} (hw : g_wp Pens_draw d mc ms Q 39 [(34, 1, 0, 0, 0, 0, .iload_n 1), (35, 1, 0, 0, 0, 0, .iload_n 2), (36, 3, 25, 0, 1207, 2, .invokestatic 81)] cs ss L st h) : G Pens_draw d mc ms cs ss 34 L st h Q := G.run (by decide +kernel) hw
theorem B_Pens_draw_39 {d mc ms cs ss : Nat} {L : List (Option Value)} {st : List Value} {h : g_H} {Q : g_Po} (hw : g_wp Pens_draw d mc ms Q 42 [(39, 3, 45, 0, 0, 0, .if_icmp .ne 6)] cs ss L st h) : G Pens_draw d mc ms cs ss 39 L st h Q := G.run (by decide +kernel) hw
theorem B_Pens_draw_42 {d mc ms cs ss : Nat} {L : List (Option Value)} {st : List Value} {h : g_H} {Q : g_Po} (hw : g_wp Pens_draw d mc ms Q 45 [(42, 2, 0, 0, 0, (-3), .bipush (-3)), (44, 1, 0, 0, 0, 0, .ireturn)] cs ss L st h) : G Pens_draw d mc ms cs ss 42 L st h Q := G.run (by decide +kernel) hw
theorem B_Pens_draw_45 {d mc ms cs ss : Nat} {L : List (Option Value)} {st : List Value} {h : g_H} {Q : g_Po} (hw : g_wp Pens_draw d mc ms Q 60 [(45, 1, 0, 0, 0, 0, .aload_n 0), (46, 3, 6, 0, 1137, 2, .getfield 10), (49, 3, 0, 1, 1057, 2, .getfield 70), (52, 3, 2, 1, 1035, 0, .getfield 73), (55, 2, 0, 0, 0, 30, .bipush 30), (57, 3, 63, 0, 0, 0, .if_icmp .lt 6)] cs ss L st h) : G Pens_draw d mc ms cs ss 45 L st h Q := G.run (by decide +kernel) hw
theorem B_Pens_draw_60 {d mc ms cs ss : Nat} {L : List (Option Value)} {st : List Value} {h : g_H} {Q : g_Po} (hw : g_wp Pens_draw d mc ms Q 63 [(60, 2, 0, 0, 0, (-4), .bipush (-4)), (62, 1, 0, 0, 0, 0, .ireturn)] cs ss L st h) : G Pens_draw d mc ms cs ss 60 L st h Q := G.run (by decide +kernel) hw
theorem B_Pens_draw_63 {d mc ms cs ss : Nat} {L : List (Option Value)} {st : List Value} {h : g_H} {Q : g_Po} (hw : g_wp Pens_draw d mc ms Q 74 [(63, 1, 0, 0, 0, 0, .aload_n 0), (64, 3, 6, 3, 1140, 2, .getfield 29), (67, 1, 0, 0, 0, 0, .aload_n 0), (68, 3, 6, 0, 1137, 2, .getfield 10), (71, 3, 7, 1, 1175, 1, .invokevirtual 77)] cs ss L st h) : G Pens_draw d mc ms cs ss 63 L st h Q := G.run (by decide +kernel) hw
theorem B_Pens_draw_74 {d mc ms cs ss : Nat} {L : List (Option Value)} {st : List Value} {h : g_H} {Q : g_Po} (hw : g_wp Pens_draw d mc ms Q 86 [(74, 1, 0, 0, 0, 0, .aload_n 0), (75, 3, 6, 0, 1137, 2, .getfield 10), (78, 3, 0, 1, 1057, 2, .getfield 70), (81, 1, 0, 0, 0, 0, .iload_n 1), (82, 1, 0, 0, 0, 0, .iload_n 2), (83, 3, 25, 0, 1207, 2, .invokestatic 81)] cs ss L st h) : G Pens_draw d mc ms cs ss 74 L st h Q := G.run (by decide +kernel) hw
theorem B_Pens_draw_86 {d mc ms cs ss : Nat} {L : List (Option Value)} {st : List Value} {h : g_H} {Q : g_Po} (hw : g_wp Pens_draw d mc ms Q 89 [(86, 3, 35, 2, 1210, 1, .invokevirtual 85)] cs ss L st h) : G Pens_draw d mc ms cs ss 86 L st h Q := G.run (by decide +kernel) hw
theorem B_Pens_draw_89 {d mc ms cs ss : Nat} {L : List (Option Value)} {st : List Value} {h : g_H} {Q : g_Po} (hw : g_wp Pens_draw d mc ms Q 100 [(89, 1, 0, 0, 0, 0, .aload_n 0), (90, 3, 6, 0, 1137, 2, .getfield 10), (93, 3, 0, 1, 1057, 2, .getfield 70), (96, 3, 2, 1, 1035, 0, .getfield 73), (99, 1, 0, 0, 0, 0, .ireturn)] cs ss L st h) : G Pens_draw d mc ms cs ss 89 L st h Q := G.run (by decide +kernel) hw
/-! blocks of Pens_lift -/
theorem ml_Pens_lift : (g_m Pens_lift).2.2.1 = 3 := rfl
theorem rt_Pens_lift : (g_m Pens_lift).2.2.2.1 = (some .int) := rfl
theorem B_Pens_lift_0 {d mc ms cs ss : Nat} {L : List (Option Value)} {st : List Value} {h : g_H} {Q : g_Po} (hw : g_wp Pens_lift d mc ms Q 13 [(0, 1, 0, 0, 0, 0, .aload_n 0), (1, 3, 6, 0, 1137, 2, .getfield 10), (4, 3, 0, 1, 1057, 2, .getfield 70), (7, 3, 2, 1, 1035, 0, .getfield 73), (10, 3, 16, 0, 0, 0, .ifCond .ne 6)] cs ss L st h) : G Pens_lift d mc ms cs ss 0 L st h Q := G.run (by decide +kernel) hw
theorem B_Pens_lift_13 {d mc ms cs ss : Nat} {L : List (Option Value)} {st : List Value} {h : g_H} {Q : g_Po} (hw : g_wp Pens_lift d mc ms Q 16 [(13, 2, 0, 0, 0, (-3), .bipush (-3)), (15, 1, 0, 0, 0, 0, .ireturn)] cs ss L st h) : G Pens_lift d mc ms cs ss 13 L st h Q := G.run (by decide +kernel) hw
theorem B_Pens_lift_16 {d mc ms cs ss : Nat} {L : List (Option Value)} {st : List Value} {h : g_H} {Q : g_Po} (hw : g_wp Pens_lift d mc ms Q 30 [(16, 1, 0, 0, 0, 0, .aload_n 0), (17, 3, 6, 0, 1137, 2, .getfield 10), (20, 3, 0, 1, 1057, 2, .getfield 70), (23, 3, 2, 1, 1035, 0, .getfield 73), (26, 1, 0, 0, 0, 2, .iconst 2), (27, 3, 34, 0, 0, 0, .if_icmp .lt 7)] cs ss L st h) : G Pens_lift d mc ms cs ss 16 L st h Q := G.run (by decide +kernel) hw
theorem B_Pens_lift_30 {d mc ms cs ss : Nat} {L : List (Option Value)} {st : List Value} {h : g_H} {Q : g_Po} (hw : g_wp Pens_lift d mc ms Q 34 [(30, 1, 0, 0, 0, 1, .iconst 1), (31, 3, 35, 0, 0, 0, .goto 4)] cs ss L st h) : G Pens_lift d mc ms cs ss 30 L st h Q := G.run (by decide +kernel) hw
theorem B_Pens_lift_34 {d mc ms cs ss : Nat} {L : List (Option Value)} {st : List Value} {h : g_H} {Q : g_Po} (hw : g_wp Pens_lift d mc ms Q 35 [(34, 1, 0, 0, 0, 0, .iconst 0)] cs ss L st h) : G Pens_lift d mc ms cs ss 34 L st h Q := G.run (by decide +kernel) hw
theorem B_Pens_lift_35 {d mc ms cs ss : Nat} {L : List (Option Value)} {st : List Value} {h : g_H} {Q : g_Po} (hw : g_wp Pens_lift d mc ms Q 40 [(35, 1, 0, 0, 0, 0, .istore_n 1), (36, 1, 0, 0, 0, 0, .iload_n 1), (37, 3, 55, 0, 0, 0, .ifCond .eq 18)] cs ss L st h) : G Pens_lift d mc ms cs ss 35 L st h Q := G.run (by decide +kernel) hw
theorem B_Pens_lift_40 {d mc ms cs ss : Nat} {L : List (Option Value)} {st : List Value} {h : g_H} {Q : g_Po} (hw : g_wp Pens_lift d mc ms Q 52 [(40, 1, 0, 0, 0, 0, .aload_n 0), (41, 3, 6, 0, 1137, 2, .getfield 10), (44, 3, 0, 2, 1059, 0, .getfield 76), (47, 2, 0, 0, 0, 10, .bipush 10), (49, 3, 55, 0, 0, 0, .if_icmp .lt 6)] cs ss L st h) : G Pens_lift d mc ms cs ss 40 L st h Q := G.run (by decide +kernel) hw
theorem B_Pens_lift_52 {d mc ms cs ss : Nat} {L : List (Option Value)} {st : List Value} {h : g_H} {Q : g_Po} (hw : g_wp Pens_lift d mc ms Q 55 [(52, 2, 0, 0, 0, (-4), .bipush (-4)), (54, 1, 0, 0, 0, 0, .ireturn)] cs ss L st h) : G Pens_lift d mc ms cs ss 52 L st h Q := G.run (by decide +kernel) hw
theorem B_Pens_lift_55 {d mc ms cs ss : Nat} {L : List (Option Value)} {st : List Value} {h : g_H} {Q : g_Po} (hw : g_wp Pens_lift d mc ms Q 66 [(55, 1, 0, 0, 0, 0, .aload_n 0), (56, 3, 6, 3, 1140, 2, .getfield 29), (59, 1, 0, 0, 0, 0, .aload_n 0), (60, 3, 6, 0, 1137, 2, .getfield 10), (63, 3, 7, 1, 1175, 1, .invokevirtual 77)] cs ss L st h) : G Pens_lift d mc ms cs ss 55 L st h Q := G.run (by decide +kernel) hw
theorem B_Pens_lift_66 {d mc ms cs ss : Nat} {L : List (Option Value)} {st : List Value} {h : g_H} {Q : g_Po} (hw : g_wp Pens_lift d mc ms Q 73 [(66, 2, 0, 0, 0, (-6), .bipush (-6)), (68, 1, 0, 0, 0, 0, .istore_n 2), (69, 1, 0, 0, 0, 0, .iload_n 1), (70, 3, 95, 0, 0, 0, .ifCond .eq 25)] cs ss L st h) : G Pens_lift d mc ms cs ss 66 L st h Q := G.run (by decide +kernel) hw
theorem B_Pens_lift_73 {d mc ms cs ss : Nat} {L : List (Option Value)} {st : List Value} {h : g_H} {Q : g_Po} (hw : g_wp Pens_lift d mc ms Q 95 [(73, 1, 0, 0, 0, 0, .aload_n 0), (74, 3, 6, 0, 1137, 2, .getfield 10), (77, 3, 0, 2, 1059, 0, .getfield 76), (80, 1, 0, 0, 0, 0, .istore_n 2), (81, 1, 0, 0, 0, 0, .aload_n 0), (82, 3, 6, 0, 1137, 2, .getfield 10), (85, 1, 0, 0, 0, 0, .aload_n 0), (86, 3, 6, 0, 1137, 2, .getfield 10), (89, 3, 0, 1, 1057, 2, .getfield 70), (92, 3, 2, 0, 1226, 1, .invokevirtual 93)] cs ss L st h) : G Pens_lift d mc ms cs ss 73 L st h Q := G.run (by decide +kernel) hw
theorem B_Pens_lift_95 {d mc ms cs ss : Nat} {L : List (Option Value)} {st : List Value} {h : g_H} {Q : g_Po} (hw : g_wp Pens_lift d mc ms Q 105 [(95, 1, 0, 0, 0, 0, .aload_n 0), (96, 3, 6, 0, 1137, 2, .getfield 10), (99, 3, 0, 1, 1057, 2, .getfield 70), (102, 3, 36, 2, 1227, 0, .invokevirtual 97)] cs ss L st h) : G Pens_lift d mc ms cs ss 95 L st h Q := G.run (by decide +kernel) hw
theorem B_Pens_lift_105 {d mc ms cs ss : Nat} {L : List (Option Value)} {st : List Value} {h : g_H} {Q : g_Po} (hw : g_wp Pens_lift d mc ms Q 107 [(105, 1, 0, 0, 0, 0, .iload_n 2), (106, 1, 0, 0, 0, 0, .ireturn)] cs ss L st h) : G Pens_lift d mc ms cs ss 105 L st h Q := G.run (by decide +kernel) hw
/-! blocks of Pens_line -/
theorem ml_Pens_line : (g_m Pens_line).2.2.1 = 1 := rfl
theorem rt_Pens_line : (g_m Pens_line).2.2.2.1 = (some .int) := rfl
theorem B_Pens_line_0 {d mc ms cs ss : Nat} {L : List (Option Value)} {st : List Value} {h : g_H} {Q : g_Po} (hw : g_wp Pens_line d mc ms Q 11 [(0, 1, 0, 0, 0, 0, .aload_n 0), (1, 3, 6, 0, 1137, 2, .getfield 10), (4, 3, 0, 1, 1057, 2, .getfield 70), (7, 3, 2, 1, 1035, 0, .getfield 73), (10, 1, 0, 0, 0, 0, .ireturn)] cs ss L st h) : G Pens_line d mc ms cs ss 0 L st h Q := G.run (by decide +kernel) hw
/-! blocks of Pens_simplify -/
theorem ml_Pens_simplify : (g_m Pens_simplify).2.2.1 = 4 := rfl
theorem rt_Pens_simplify : (g_m Pens_simplify).2.2.2.1 = (some .int) := rfl
theorem B_Pens_simplify_0 {d mc ms cs ss : Nat} {L : List (Option Value)} {st : List Value} {h : g_H} {Q : g_Po} (hw : g_wp Pens_simplify d mc ms Q 8 [(0, 1, 0, 0, 0, 0, .aload_n 0), (1, 3, 6, 0, 1137, 2, .getfield 10), (4, 1, 0, 0, 0, 0, .iload_n 1), (5, 3, 1, 0, 2056, 1, .invokevirtual 100)] cs ss L st h) : G Pens_simplify d mc ms cs ss 0 L st h Q := G.run (by decide +kernel) hw
theorem B_Pens_simplify_8 {d mc ms cs ss : Nat} {L : List (Option Value)} {st : List Value} {h : g_H} {Q : g_Po} (hw : g_wp Pens_simplify d mc ms Q 13 [(8, 1, 0, 0, 0, 0, .astore_n 3), (9, 1, 0, 0, 0, 0, .aload_n 3), (10, 3, 15, 0, 0, 0, .ifnonnull 5)] cs ss L st h) : G Pens_simplify d mc ms cs ss 8 L st h Q := G.run (by decide +kernel) hw
theorem B_Pens_simplify_13 {d mc ms cs ss : Nat} {L : List (Option Value)} {st : List Value} {h : g_H} {Q : g_Po} (hw : g_wp Pens_simplify d mc ms Q 15 [(13, 1, 0, 0, 0, (-1), .iconst (-1)), (14, 1, 0, 0, 0, 0, .ireturn)] cs ss L st h) : G Pens_simplify d mc ms cs ss 13 L st h Q := G.run (by decide +kernel) hw
theorem B_Pens_simplify_15 {d mc ms cs ss : Nat} {L : List (Option Value)} {st : List Value} {h : g_H} {Q : g_Po} (hw : g_wp Pens_simplify d mc ms Q 19 [(15, 1, 0, 0, 0, 0, .iload_n 2), (16, 3, 26, 0, 0, 0, .ifCond .lt 10)] cs ss L st h) : G Pens_simplify d mc ms cs ss 15 L st h Q := G.run (by decide +kernel) hw
theorem B_Pens_simplify_19 {d mc ms cs ss : Nat} {L : List (Option Value)} {st : List Value} {h : g_H} {Q : g_Po} (hw : g_wp Pens_simplify d mc ms Q 26 [(19, 1, 0, 0, 0, 0, .iload_n 2), (20, 3, 0, 0, 0, 200, .sipush 200), (23, 3, 29, 0, 0, 0, .if_icmp .le 6)] cs ss L st h) : G Pens_simplify d mc ms cs ss 19 L st h Q := G.run (by decide +kernel) hw
theorem B_Pens_simplify_26 {d mc ms cs ss : Nat} {L : List (Option Value)} {st : List Value} {h : g_H} {Q : g_Po} (hw : g_wp Pens_simplify d mc ms Q 29 [(26, 2, 0, 0, 0, (-2), .bipush (-2)), (28, 1, 0, 0, 0, 0, .ireturn)] cs ss L st h) : G Pens_simplify d mc ms cs ss 26 L st h Q := G.run (by decide +kernel) hw
theorem B_Pens_simplify_29 {d mc ms cs ss : Nat} {L : List (Option Value)} {st : List Value} {h : g_H} {Q : g_Po} (hw : g_wp Pens_simplify d mc ms Q 40 [(29, 1, 0, 0, 0, 0, .aload_n 0), (30, 3, 6, 3, 1140, 2, .getfield 29), (33, 1, 0, 0, 0, 0, .aload_n 0), (34, 3, 6, 0, 1137, 2, .getfield 10), (37, 3, 7, 1, 1175, 1, .invokevirtual 77)] cs ss L st h) : G Pens_simplify d mc ms cs ss 29 L st h Q := G.run (by decide +kernel) hw
theorem B_Pens_simplify_40 {d mc ms cs ss : Nat} {L : List (Option Value)} {st : List Value} {h : g_H} {Q : g_Po} (hw : g_wp Pens_simplify d mc ms Q 48 [(40, 1, 0, 0, 0, 0, .aload_n 0), (41, 3, 6, 4, 1141, 2, .getfield 36), (44, 1, 0, 0, 0, 0, .aload_n 3), (45, 3, 47, 4, 2188, 1, .invokevirtual 104)] cs ss L st h) : G Pens_simplify d mc ms cs ss 40 L st h Q := G.run (by decide +kernel) hw
theorem B_Pens_simplify_48 {d mc ms cs ss : Nat} {L : List (Option Value)} {st : List Value} {h : g_H} {Q : g_Po} (hw : g_wp Pens_simplify d mc ms Q 61 [(48, 1, 0, 0, 0, 0, .aload_n 0), (49, 3, 6, 4, 1141, 2, .getfield 36), (52, 1, 0, 0, 0, 0, .aload_n 3), (53, 1, 0, 0, 0, 0, .iload_n 2), (54, 1, 0, 0, 0, 0, .aload_n 0), (55, 3, 6, 2, 1139, 2, .getfield 22), (58, 3, 48, 4, 2228, 3, .invokevirtual 107)] cs ss L st h) : G Pens_simplify d mc ms cs ss 48 L st h Q := G.run (by decide +kernel) hw
theorem B_Pens_simplify_61 {d mc ms cs ss : Nat} {L : List (Option Value)} {st : List Value} {h : g_H} {Q : g_Po} (hw : g_wp Pens_simplify d mc ms Q 69 [(61, 1, 0, 0, 0, 0, .aload_n 3), (62, 1, 0, 0, 0, 0, .aload_n 0), (63, 3, 6, 2, 1139, 2, .getfield 22), (66, 3, 38, 2, 3009, 1, .invokevirtual 111)] cs ss L st h) : G Pens_simplify d mc ms cs ss 61 L st h Q := G.run (by decide +kernel) hw
theorem B_Pens_simplify_69 {d mc ms cs ss : Nat} {L : List (Option Value)} {st : List Value} {h : g_H} {Q : g_Po} (hw : g_wp Pens_simplify d mc ms Q 74 [(69, 1, 0, 0, 0, 0, .aload_n 3), (70, 3, 2, 1, 1035, 0, .getfield 73), (73, 1, 0, 0, 0, 0, .ireturn)] cs ss L st h) : G Pens_simplify d mc ms cs ss 69 L st h Q := G.run (by decide +kernel) hw
/-! blocks of Pens_weld -/
theorem ml_Pens_weld : (g_m Pens_weld).2.2.1 = 2 := rfl
theorem rt_Pens_weld : (g_m Pens_weld).2.2.2.1 = (some .int) := rfl
theorem B_Pens_weld_0 {d mc ms cs ss : Nat} {L : List (Option Value)} {st : List Value} {h : g_H} {Q : g_Po} (hw : g_wp Pens_weld d mc ms Q 5 [(0, 1, 0, 0, 0, 0, .iload_n 1), (1, 1, 0, 0, 0, 1, .iconst 1), (2, 3, 12, 0, 0, 0, .if_icmp .lt 10)] cs ss L st h) : G Pens_weld d mc ms cs ss 0 L st h Q := G.run (by decide +kernel) hw
theorem B_Pens_weld_5 {d mc ms cs ss : Nat} {L : List (Option Value)} {st : List Value} {h : g_H} {Q : g_Po} (hw : g_wp Pens_weld d mc ms Q 12 [(5, 1, 0, 0, 0, 0, .iload_n 1), (6, 3, 0, 0, 0, 999, .sipush 999), (9, 3, 15, 0, 0, 0, .if_icmp .le 6)] cs ss L st h) : G Pens_weld d mc ms cs ss 5 L st h Q := G.run (by decide +kernel) hw
theorem B_Pens_weld_12 {d mc ms cs ss : Nat} {L : List (Option Value)} {st : List Value} {h : g_H} {Q : g_Po} (hw : g_wp Pens_weld d mc ms Q 15 [(12, 2, 0, 0, 0, (-2), .bipush (-2)), (14, 1, 0, 0, 0, 0, .ireturn)] cs ss L st h) : G Pens_weld d mc ms cs ss 12 L st h Q := G.run (by decide +kernel) hw
theorem B_Pens_weld_15 {d mc ms cs ss : Nat} {L : List (Option Value)} {st : List Value} {h : g_H} {Q : g_Po} (hw : g_wp Pens_weld d mc ms Q 26 [(15, 1, 0, 0, 0, 0, .aload_n 0), (16, 3, 6, 3, 1140, 2, .getfield 29), (19, 1, 0, 0, 0, 0, .aload_n 0), (20, 3, 6, 0, 1137, 2, .getfield 10), (23, 3, 7, 1, 1175, 1, .invokevirtual 77)] cs ss L st h) : G Pens_weld d mc ms cs ss 15 L st h Q := G.run (by decide +kernel) hw
theorem B_Pens_weld_26 {d mc ms cs ss : Nat} {L : List (Option Value)} {st : List Value} {h : g_H} {Q : g_Po} (hw : g_wp Pens_weld d mc ms Q 38 [(26, 1, 0, 0, 0, 0, .aload_n 0), (27, 3, 6, 5, 1142, 2, .getfield 43), (30, 1, 0, 0, 0, 0, .aload_n 0), (31, 3, 6, 0, 1137, 2, .getfield 10), (34, 1, 0, 0, 0, 0, .iload_n 1), (35, 3, 58, 5, 3017, 2, .invokevirtual 114)] cs ss L st h) : G Pens_weld d mc ms cs ss 26 L st h Q := G.run (by decide +kernel) hw
theorem B_Pens_weld_38 {d mc ms cs ss : Nat} {L : List (Option Value)} {st : List Value} {h : g_H} {Q : g_Po} (hw : g_wp Pens_weld d mc ms Q 39 [(38, 1, 0, 0, 0, 0, .ireturn)] cs ss L st h) : G Pens_weld d mc ms cs ss 38 L st h Q := G.run (by decide +kernel) hw
/-! blocks of Pens_joinAll -/
theorem ml_Pens_joinAll : (g_m Pens_joinAll).2.2.1 = 1 := rfl
theorem rt_Pens_joinAll : (g_m Pens_joinAll).2.2.2.1 = (some .int) := rfl
theorem B_Pens_joinAll_0 {d mc ms cs ss : Nat} {L : List (Option Value)} {st : List Value} {h : g_H} {Q : g_Po} (hw : g_wp Pens_joinAll d mc ms Q 11 [(0, 1, 0, 0, 0, 0, .aload_n 0), (1, 3, 6, 3, 1140, 2, .getfield 29), (4, 1, 0, 0, 0, 0, .aload_n 0), (5, 3, 6, 0, 1137, 2, .getfield 10), (8, 3, 7, 1, 1175, 1, .invokevirtual 77)] cs ss L st h) : G Pens_joinAll d mc ms cs ss 0 L st h Q := G.run (by decide +kernel) hw
theorem B_Pens_joinAll_11 {d mc ms cs ss : Nat} {L : List (Option Value)} {st : List Value} {h : g_H} {Q : g_Po} (hw : g_wp Pens_joinAll d mc ms Q 18 [(11, 1, 0, 0, 0, 0, .aload_n 0), (12, 3, 6, 0, 1137, 2, .getfield 10), (15, 3, 9, 0, 1239, 1, .invokestatic 118)] cs ss L st h) : G Pens_joinAll d mc ms cs ss 11 L st h Q := G.run (by decide +kernel) hw
theorem B_Pens_joinAll_18 {d mc ms cs ss : Nat} {L : List (Option Value)} {st : List Value} {h : g_H} {Q : g_Po} (hw : g_wp Pens_joinAll d mc ms Q 26 [(18, 1, 0, 0, 0, 0, .aload_n 0), (19, 3, 6, 0, 1137, 2, .getfield 10), (22, 3, 0, 2, 1059, 0, .getfield 76), (25, 1, 0, 0, 0, 0, .ireturn)] cs ss L st h) : G Pens_joinAll d mc ms cs ss 18 L st h Q := G.run (by decide +kernel) hw
/-! blocks of Pens_move -/
theorem ml_Pens_move : (g_m Pens_move).2.2.1 = 8 := rfl
theorem rt_Pens_move : (g_m Pens_move).2.2.2.1 = (some .int) := rfl
theorem B_Pens_move_0 {d mc ms cs ss : Nat} {L : List (Option Value)} {st : List Value} {h : g_H} {Q : g_Po} (hw : g_wp Pens_move d mc ms Q 8 [(0, 1, 0, 0, 0, 0, .aload_n 0), (1, 3, 6, 0, 1137, 2, .getfield 10), (4, 1, 0, 0, 0, 0, .iload_n 1), (5, 3, 1, 0, 2056, 1, .invokevirtual 100)] cs ss L st h) : G Pens_move d mc ms cs ss 0 L st h Q := G.run (by decide +kernel) hw
theorem B_Pens_move_8 {d mc ms cs ss : Nat} {L : List (Option Value)} {st : List Value} {h : g_H} {Q : g_Po} (hw : g_wp Pens_move d mc ms Q 15 [(8, 2, 0, 0, 0, 0, .astore 4), (10, 2, 0, 0, 0, 0, .aload 4), (12, 3, 17, 0, 0, 0, .ifnonnull 5)] cs ss L st h) : G Pens_move d mc ms cs ss 8 L st h Q := G.run (by decide +kernel) hw
theorem B_Pens_move_15 {d mc ms cs ss : Nat} {L : List (Option Value)} {st : List Value} {h : g_H} {Q : g_Po} (hw : g_wp Pens_move d mc ms Q 17 [(15, 1, 0, 0, 0, (-1), .iconst (-1)), (16, 1, 0, 0, 0, 0, .ireturn)] cs ss L st h) : G Pens_move d mc ms cs ss 15 L st h Q := G.run (by decide +kernel) hw
theorem B_Pens_move_17 {d mc ms cs ss : Nat} {L : List (Option Value)} {st : List Value} {h : g_H} {Q : g_Po} (hw : g_wp Pens_move d mc ms Q 29 [(17, 1, 0, 0, 0, 0, .iload_n 2), (18, 1, 0, 0, 0, 0, .i2l), (19, 3, 9992, 0, 3065, 1, .invokestatic 123), (22, 3, 0, 0, 3068, 999, .ldc2_w 129), (25, 1, 0, 0, 0, 0, .lcmp), (26, 3, 41, 0, 0, 0, .ifCond .gt 15)] cs ss L st h) : G Pens_move d mc ms cs ss 17 L st h Q := G.run (by decide +kernel) hw
theorem B_Pens_move_29 {d mc ms cs ss : Nat} {L : List (Option Value)} {st : List Value} {h : g_H} {Q : g_Po} (hw : g_wp Pens_move d mc ms Q 41 [(29, 1, 0, 0, 0, 0, .iload_n 3), (30, 1, 0, 0, 0, 0, .i2l), (31, 3, 9992, 0, 3065, 1, .invokestatic 123), (34, 3, 0, 0, 3068, 999, .ldc2_w 129), (37, 1, 0, 0, 0, 0, .lcmp), (38, 3, 44, 0, 0, 0, .ifCond .le 6)] cs ss L st h) : G Pens_move d mc ms cs ss 29 L st h Q := G.run (by decide +kernel) hw
theorem B_Pens_move_41 {d mc ms cs ss : Nat} {L : List (Option Value)} {st : List Value} {h : g_H} {Q : g_Po} (hw : g_wp Pens_move d mc ms Q 44 [(41, 2, 0, 0, 0, (-2), .bipush (-2)), (43, 1, 0, 0, 0, 0, .ireturn)] cs ss L st h) : G Pens_move d mc ms cs ss 41 L st h Q := G.run (by decide +kernel) hw
theorem B_Pens_move_44 {d mc ms cs ss : Nat} {L : List (Option Value)} {st : List Value} {h : g_H} {Q : g_Po} (hw : g_wp Pens_move d mc ms Q 53 [(44, 1, 0, 0, 0, 0, .aload_n 0), (45, 3, 6, 2, 1139, 2, .getfield 22), (48, 2, 0, 0, 0, 0, .aload 4), (50, 3, 38, 2, 3009, 1, .invokevirtual 111)] cs ss L st h) : G Pens_move d mc ms cs ss 44 L st h Q := G.run (by decide +kernel) hw
theorem B_Pens_move_53 {d mc ms cs ss : Nat} {L : List (Option Value)} {st : List Value} {h : g_H} {Q : g_Po} (hw : g_wp Pens_move d mc ms Q 56 [(53, 1, 0, 0, 0, 0, .iconst 0), (54, 2, 0, 0, 0, 0, .istore 5)] cs ss L st h) : G Pens_move d mc ms cs ss 53 L st h Q := G.run (by decide +kernel) hw
theorem B_Pens_move_56 {d mc ms cs ss : Nat} {L : List (Option Value)} {st : List Value} {h : g_H} {Q : g_Po} (hw : g_wp Pens_move d mc ms Q 66 [(56, 2, 0, 0, 0, 0, .iload 5), (58, 2, 0, 0, 0, 0, .aload 4), (60, 3, 2, 1, 1035, 0, .getfield 73), (63, 3, 129, 0, 0, 0, .if_icmp .ge 66)] cs ss L st h) : G Pens_move d mc ms cs ss 56 L st h Q := G.run (by decide +kernel) hw
theorem B_Pens_move_66 {d mc ms cs ss : Nat} {L : List (Option Value)} {st : List Value} {h : g_H} {Q : g_Po} (hw : g_wp Pens_move d mc ms Q 73 [(66, 2, 0, 0, 0, 0, .aload 4), (68, 2, 0, 0, 0, 0, .iload 5), (70, 3, 33, 2, 2119, 1, .invokevirtual 131)] cs ss L st h) : G Pens_move d mc ms cs ss 66 L st h Q := G.run (by decide +kernel) hw
theorem B_Pens_move_73 {d mc ms cs ss : Nat} {L : List (Option Value)} {st : List Value} {h : g_H} {Q : g_Po} (hw : g_wp Pens_move d mc ms Q 76 [(73, 3, 26, 0, 3069, 1, .invokestatic 135)] cs ss L st h) : G Pens_move d mc ms cs ss 73 L st h Q := G.run (by decide +kernel) hw
theorem B_Pens_move_76 {d mc ms cs ss : Nat} {L : List (Option Value)} {st : List Value} {h : g_H} {Q : g_Po} (hw : g_wp Pens_move d mc ms Q 87 [(76, 1, 0, 0, 0, 0, .iload_n 2), (77, 1, 0, 0, 0, 0, .iadd), (78, 2, 0, 0, 0, 0, .istore 6), (80, 2, 0, 0, 0, 0, .aload 4), (82, 2, 0, 0, 0, 0, .iload 5), (84, 3, 33, 2, 2119, 1, .invokevirtual 131)] cs ss L st h) : G Pens_move d mc ms cs ss 76 L st h Q := G.run (by decide +kernel) hw
theorem B_Pens_move_87 {d mc ms cs ss : Nat} {L : List (Option Value)} {st : List Value} {h : g_H} {Q : g_Po} (hw : g_wp Pens_move d mc ms Q 90 [(87, 3, 27, 0, 3070, 1, .invokestatic 138)] cs ss L st h) : G Pens_move d mc ms cs ss 87 L st h Q := G.run (by decide +kernel) hw
theorem B_Pens_move_90 {d mc ms cs ss : Nat} {L : List (Option Value)} {st : List Value} {h : g_H} {Q : g_Po} (hw : g_wp Pens_move d mc ms Q 101 [(90, 1, 0, 0, 0, 0, .iload_n 3), (91, 1, 0, 0, 0, 0, .iadd), (92, 2, 0, 0, 0, 0, .istore 7), (94, 2, 0, 0, 0, 0, .iload 6), (96, 2, 0, 0, 0, 0, .iload 7), (98, 3, 24, 0, 1172, 2, .invokestatic 64)] cs ss L st h) : G Pens_move d mc ms cs ss 90 L st h Q := G.run (by decide +kernel) hw
theorem B_Pens_move_101 {d mc ms cs ss : Nat} {L : List (Option Value)} {st : List Value} {h : g_H} {Q : g_Po} (hw : g_wp Pens_move d mc ms Q 104 [(101, 3, 107, 0, 0, 0, .ifCond .ne 6)] cs ss L st h) : G Pens_move d mc ms cs ss 101 L st h Q := G.run (by decide +kernel) hw
theorem B_Pens_move_104 {d mc ms cs ss : Nat} {L : List (Option Value)} {st : List Value} {h : g_H} {Q : g_Po} (hw : g_wp Pens_move d mc ms Q 107 [(104, 2, 0, 0, 0, (-3), .bipush (-3)), (106, 1, 0, 0, 0, 0, .ireturn)] cs ss L st h) : G Pens_move d mc ms cs ss 104 L st h Q := G.run (by decide +kernel) hw
theorem B_Pens_move_107 {d mc ms cs ss : Nat} {L : List (Option Value)} {st : List Value} {h : g_H} {Q : g_Po} (hw : g_wp Pens_move d mc ms Q 120 [(107, 1, 0, 0, 0, 0, .aload_n 0), (108, 3, 6, 2, 1139, 2, .getfield 22), (111, 2, 0, 0, 0, 0, .iload 5), (113, 2, 0, 0, 0, 0, .iload 6), (115, 2, 0, 0, 0, 0, .iload 7), (117, 3, 25, 0, 1207, 2, .invokestatic 81)] cs ss L st h) : G Pens_move d mc ms cs ss 107 L st h Q := G.run (by decide +kernel) hw
theorem B_Pens_move_120 {d mc ms cs ss : Nat} {L : List (Option Value)} {st : List Value} {h : g_H} {Q : g_Po} (hw : g_wp Pens_move d mc ms Q 123 [(120, 3, 34, 2, 3071, 2, .invokevirtual 141)] cs ss L st h) : G Pens_move d mc ms cs ss 120 L st h Q := G.run (by decide +kernel) hw
theorem B_Pens_move_123 {d mc ms cs ss : Nat} {L : List (Option Value)} {st : List Value} {h : g_H} {Q : g_Po} (hw : g_wp Pens_move d mc ms Q 129 [(123, 3, 0, 0, 0, 1, .iinc 5 1), (126, 3, 56, 0, 0, 0, .goto (-70))] cs ss L st h) : G Pens_move d mc ms cs ss 123 L st h Q := G.run (by decide +kernel) hw
theorem B_Pens_move_129 {d mc ms cs ss : Nat} {L : List (Option Value)} {st : List Value} {h : g_H} {Q : g_Po} (hw : g_wp Pens_move d mc ms Q 140 [(129, 1, 0, 0, 0, 0, .aload_n 0), (130, 3, 6, 3, 1140, 2, .getfield 29), (133, 1, 0, 0, 0, 0, .aload_n 0), (134, 3, 6, 0, 1137, 2, .getfield 10), (137, 3, 7, 1, 1175, 1, .invokevirtual 77)] cs ss L st h) : G Pens_move d mc ms cs ss 129 L st h Q := G.run (by decide +kernel) hw
theorem B_Pens_move_140 {d mc ms cs ss : Nat} {L : List (Option Value)} {st : List Value} {h : g_H} {Q : g_Po} (hw : g_wp Pens_move d mc ms Q 149 [(140, 2, 0, 0, 0, 0, .aload 4), (142, 1, 0, 0, 0, 0, .aload_n 0), (143, 3, 6, 2, 1139, 2, .getfield 22), (146, 3, 38, 2, 3009, 1, .invokevirtual 111)] cs ss L st h) : G Pens_move d mc ms cs ss 140 L st h Q := G.run (by decide +kernel) hw
theorem B_Pens_move_149 {d mc ms cs ss : Nat} {L : List (Option Value)} {st : List Value} {h : g_H} {Q : g_Po} (hw : g_wp Pens_move d mc ms Q 154 [(149, 2, 0, 0, 0, 0, .aload 4), (151, 3, 39, 2, 3072, 0, .invokevirtual 145)] cs ss L st h) : G Pens_move d mc ms cs ss 149 L st h Q := G.run (by decide +kernel) hw
theorem B_Pens_move_154 {d mc ms cs ss : Nat} {L : List (Option Value)} {st : List Value} {h : g_H} {Q : g_Po} (hw : g_wp Pens_move d mc ms Q 155 [(154, 1, 0, 0, 0, 0, .ireturn)] cs ss L st h) : G Pens_move d mc ms cs ss 154 L st h Q := G.run (by decide +kernel) hw
/-! blocks of Pens_turn -/
theorem ml_Pens_turn : (g_m Pens_turn).2.2.1 = 11 := rfl
theorem rt_Pens_turn : (g_m Pens_turn).2.2.2.1 = (some .int) := rfl
theorem B_Pens_turn_0 {d mc ms cs ss : Nat} {L : List (Option Value)} {st : List Value} {h : g_H} {Q : g_Po} (hw : g_wp Pens_turn d mc ms Q 8 [(0, 1, 0, 0, 0, 0, .aload_n 0), (1, 3, 6, 0, 1137, 2, .getfield 10), (4, 1, 0, 0, 0, 0, .iload_n 1), (5, 3, 1, 0, 2056, 1, .invokevirtual 100)] cs ss L st h) : G Pens_turn d mc ms cs ss 0 L st h Q := G.run (by decide +kernel) hw
theorem B_Pens_turn_8 {d mc ms cs ss : Nat} {L : List (Option Value)} {st : List Value} {h : g_H} {Q : g_Po} (hw : g_wp Pens_turn d mc ms Q 13 [(8, 1, 0, 0, 0, 0, .astore_n 3), (9, 1, 0, 0, 0, 0, .aload_n 3), (10, 3, 15, 0, 0, 0, .ifnonnull 5)] cs ss L st h) : G Pens_turn d mc ms cs ss 8 L st h Q := G.run (by decide +kernel) hw
theorem B_Pens_turn_13 {d mc ms cs ss : Nat} {L : List (Option Value)} {st : List Value} {h : g_H} {Q : g_Po} (hw : g_wp Pens_turn d mc ms Q 15 [(13, 1, 0, 0, 0, (-1), .iconst (-1)), (14, 1, 0, 0, 0, 0, .ireturn)] cs ss L st h) : G Pens_turn d mc ms cs ss 13 L st h Q := G.run (by decide +kernel) hw
theorem B_Pens_turn_15 {d mc ms cs ss : Nat} {L : List (Option Value)} {st : List Value} {h : g_H} {Q : g_Po} (hw : g_wp Pens_turn d mc ms Q 20 [(15, 1, 0, 0, 0, 0, .iload_n 2), (16, 1, 0, 0, 0, 1, .iconst 1), (17, 3, 25, 0, 0, 0, .if_icmp .lt 8)] cs ss L st h) : G Pens_turn d mc ms cs ss 15 L st h Q := G.run (by decide +kernel) hw
theorem B_Pens_turn_20 {d mc ms cs ss : Nat} {L : List (Option Value)} {st : List Value} {h : g_H} {Q : g_Po} (hw : g_wp Pens_turn d mc ms Q 25 [(20, 1, 0, 0, 0, 0, .iload_n 2), (21, 1, 0, 0, 0, 3, .iconst 3), (22, 3, 28, 0, 0, 0, .if_icmp .le 6)] cs ss L st h) : G Pens_turn d mc ms cs ss 20 L st h Q := G.run (by decide +kernel) hw
theorem B_Pens_turn_25 {d mc ms cs ss : Nat} {L : List (Option Value)} {st : List Value} {h : g_H} {Q : g_Po} (hw : g_wp Pens_turn d mc ms Q 28 [(25, 2, 0, 0, 0, (-2), .bipush (-2)), (27, 1, 0, 0, 0, 0, .ireturn)] cs ss L st h) : G Pens_turn d mc ms cs ss 25 L st h Q := G.run (by decide +kernel) hw
theorem B_Pens_turn_28 {d mc ms cs ss : Nat} {L : List (Option Value)} {st : List Value} {h : g_H} {Q : g_Po} (hw : g_wp Pens_turn d mc ms Q 32 [(28, 1, 0, 0, 0, 0, .aload_n 3), (29, 3, 39, 2, 3072, 0, .invokevirtual 145)] cs ss L st h) : G Pens_turn d mc ms cs ss 28 L st h Q := G.run (by decide +kernel) hw
theorem B_Pens_turn_32 {d mc ms cs ss : Nat} {L : List (Option Value)} {st : List Value} {h : g_H} {Q : g_Po} (hw : g_wp Pens_turn d mc ms Q 35 [(32, 3, 26, 0, 3069, 1, .invokestatic 135)] cs ss L st h) : G Pens_turn d mc ms cs ss 32 L st h Q := G.run (by decide +kernel) hw
theorem B_Pens_turn_35 {d mc ms cs ss : Nat} {L : List (Option Value)} {st : List Value} {h : g_H} {Q : g_Po} (hw : g_wp Pens_turn d mc ms Q 41 [(35, 2, 0, 0, 0, 0, .istore 4), (37, 1, 0, 0, 0, 0, .aload_n 3), (38, 3, 39, 2, 3072, 0, .invokevirtual 145)] cs ss L st h) : G Pens_turn d mc ms cs ss 35 L st h Q := G.run (by decide +kernel) hw
theorem B_Pens_turn_41 {d mc ms cs ss : Nat} {L : List (Option Value)} {st : List Value} {h : g_H} {Q : g_Po} (hw : g_wp Pens_turn d mc ms Q 44 [(41, 3, 27, 0, 3070, 1, .invokestatic 138)] cs ss L st h) : G Pens_turn d mc ms cs ss 41 L st h Q := G.run (by decide +kernel) hw
theorem B_Pens_turn_44 {d mc ms cs ss : Nat} {L : List (Option Value)} {st : List Value} {h : g_H} {Q : g_Po} (hw : g_wp Pens_turn d mc ms Q 54 [(44, 2, 0, 0, 0, 0, .istore 5), (46, 1, 0, 0, 0, 0, .aload_n 0), (47, 3, 6, 2, 1139, 2, .getfield 22), (50, 1, 0, 0, 0, 0, .aload_n 3), (51, 3, 38, 2, 3009, 1, .invokevirtual 111)] cs ss L st h) : G Pens_turn d mc ms cs ss 44 L st h Q := G.run (by decide +kernel) hw
theorem B_Pens_turn_54 {d mc ms cs ss : Nat} {L : List (Option Value)} {st : List Value} {h : g_H} {Q : g_Po} (hw : g_wp Pens_turn d mc ms Q 57 [(54, 1, 0, 0, 0, 0, .iconst 0), (55, 2, 0, 0, 0, 0, .istore 6)] cs ss L st h) : G Pens_turn d mc ms cs ss 54 L st h Q := G.run (by decide +kernel) hw
theorem B_Pens_turn_57 {d mc ms cs ss : Nat} {L : List (Option Value)} {st : List Value} {h : g_H} {Q : g_Po} (hw : g_wp Pens_turn d mc ms Q 66 [(57, 2, 0, 0, 0, 0, .iload 6), (59, 1, 0, 0, 0, 0, .aload_n 3), (60, 3, 2, 1, 1035, 0, .getfield 73), (63, 3, 187, 0, 0, 0, .if_icmp .ge 124)] cs ss L st h) : G Pens_turn d mc ms cs ss 57 L st h Q := G.run (by decide +kernel) hw
theorem B_Pens_turn_66 {d mc ms cs ss : Nat} {L : List (Option Value)} {st : List Value} {h : g_H} {Q : g_Po} (hw : g_wp Pens_turn d mc ms Q 72 [(66, 1, 0, 0, 0, 0, .aload_n 3), (67, 2, 0, 0, 0, 0, .iload 6), (69, 3, 33, 2, 2119, 1, .invokevirtual 131)] cs ss L st h) : G Pens_turn d mc ms cs ss 66 L st h Q := G.run (by decide +kernel) hw
theorem B_Pens_turn_72 {d mc ms cs ss : Nat} {L : List (Option Value)} {st : List Value} {h : g_H} {Q : g_Po} (hw : g_wp Pens_turn d mc ms Q 75 [(72, 3, 26, 0, 3069, 1, .invokestatic 135)] cs ss L st h) : G Pens_turn d mc ms cs ss 72 L st h Q := G.run (by decide +kernel) hw
theorem B_Pens_turn_75 {d mc ms cs ss : Nat} {L : List (Option Value)} {st : List Value} {h : g_H} {Q : g_Po} (hw : g_wp Pens_turn d mc ms Q 86 [(75, 2, 0, 0, 0, 0, .iload 4), (77, 1, 0, 0, 0, 0, .isub), (78, 2, 0, 0, 0, 0, .istore 7), (80, 1, 0, 0, 0, 0, .aload_n 3), (81, 2, 0, 0, 0, 0, .iload 6), (83, 3, 33, 2, 2119, 1, .invokevirtual 131)] cs ss L st h) : G Pens_turn d mc ms cs ss 75 L st h Q := G.run (by decide +kernel) hw
theorem B_Pens_turn_86 {d mc ms cs ss : Nat} {L : List (Option Value)} {st : List Value} {h : g_H} {Q : g_Po} (hw : g_wp Pens_turn d mc ms Q 89 [(86, 3, 27, 0, 3070, 1, .invokestatic 138)] cs ss L st h) : G Pens_turn d mc ms cs ss 86 L st h Q := G.run (by decide +kernel) hw
theorem B_Pens_turn_89 {d mc ms cs ss : Nat} {L : List (Option Value)} {st : List Value} {h : g_H} {Q : g_Po} (hw : g_wp Pens_turn d mc ms Q 101 [(89, 2, 0, 0, 0, 0, .iload 5), (91, 1, 0, 0, 0, 0, .isub), (92, 2, 0, 0, 0, 0, .istore 8), (94, 2, 0, 0, 0, 0, .iload 4), (96, 1, 0, 0, 0, 0, .iload_n 2), (97, 1, 0, 0, 0, 1, .iconst 1), (98, 3, 107, 0, 0, 0, .if_icmp .ne 9)] cs ss L st h) : G Pens_turn d mc ms cs ss 89 L st h Q := G.run (by decide +kernel) hw
theorem B_Pens_turn_101 {d mc ms cs ss : Nat} {L : List (Option Value)} {st : List Value} {h : g_H} {Q : g_Po} (hw : g_wp Pens_turn d mc ms Q 107 [(101, 2, 0, 0, 0, 0, .iload 8), (103, 1, 0, 0, 0, 0, .ineg), (104, 3, 120, 0, 0, 0, .goto 16)] cs ss L st h) : G Pens_turn d mc ms cs ss 101 L st h Q := G.run (by decide +kernel) hw
theorem B_Pens_turn_107 {d mc ms cs ss : Nat} {L : List (Option Value)} {st : List Value} {h : g_H} {Q : g_Po} (hw : g_wp Pens_turn d mc ms Q 112 [(107, 1, 0, 0, 0, 0, .iload_n 2), (108, 1, 0, 0, 0, 2, .iconst 2), (109, 3, 118, 0, 0, 0, .if_icmp .ne 9)] cs ss L st h) : G Pens_turn d mc ms cs ss 107 L st h Q := G.run (by decide +kernel) hw
theorem B_Pens_turn_112 {d mc ms cs ss : Nat} {L : List (Option Value)} {st : List Value} {h : g_H} {Q : g_Po} (hw : g_wp Pens_turn d mc ms Q 118 [(112, 2, 0, 0, 0, 0, .iload 7), (114, 1, 0, 0, 0, 0, .ineg), (115, 3, 120, 0, 0, 0, .goto 5)] cs ss L st h) : G Pens_turn d mc ms cs ss 112 L st h Q := G.run (by decide +kernel) hw
theorem B_Pens_turn_118 {d mc ms cs ss : Nat} {L : List (Option Value)} {st : List Value} {h : g_H} {Q : g_Po} (hw : g_wp Pens_turn d mc ms Q 120 [(118, 2, 0, 0, 0, 0, .iload 8)] cs ss L st h) : G Pens_turn d mc ms cs ss 118 L st h Q := G.run (by decide +kernel) hw
theorem B_Pens_turn_120 {d mc ms cs ss : Nat} {L : List (Option Value)} {st : List Value} {h : g_H} {Q : g_Po} (hw : g_wp Pens_turn d mc ms Q 130 [(120, 1, 0, 0, 0, 0, .iadd), (121, 2, 0, 0, 0, 0, .istore 9), (123, 2, 0, 0, 0, 0, .iload 5), (125, 1, 0, 0, 0, 0, .iload_n 2), (126, 1, 0, 0, 0, 1, .iconst 1), (127, 3, 135, 0, 0, 0, .if_icmp .ne 8)] cs ss L st h) : G Pens_turn d mc ms cs ss 120 L st h Q := G.run (by decide +kernel) hw
theorem B_Pens_turn_130 {d mc ms cs ss : Nat} {L : List (Option Value)} {st : List Value} {h : g_H} {Q : g_Po} (hw : g_wp Pens_turn d mc ms Q 135 [(130, 2, 0, 0, 0, 0, .iload 7), (132, 3, 149, 0, 0, 0, .goto 17)] cs ss L st h) : G Pens_turn d mc ms cs ss 130 L st h Q := G.run (by decide +kernel) hw
theorem B_Pens_turn_135 {d mc ms cs ss : Nat} {L : List (Option Value)} {st : List Value} {h : g_H} {Q : g_Po} (hw : g_wp Pens_turn d mc ms Q 140 [(135, 1, 0, 0, 0, 0, .iload_n 2), (136, 1, 0, 0, 0, 2, .iconst 2), (137, 3, 146, 0, 0, 0, .if_icmp .ne 9)] cs ss L st h) : G Pens_turn d mc ms cs ss 135 L st h Q := G.run (by decide +kernel) hw
theorem B_Pens_turn_140 {d mc ms cs ss : Nat} {L : List (Option Value)} {st : List Value} {h : g_H} {Q : g_Po} (hw : g_wp Pens_turn d mc ms Q 146 [(140, 2, 0, 0, 0, 0, .iload 8), (142, 1, 0, 0, 0, 0, .ineg), (143, 3, 149, 0, 0, 0, .goto 6)] cs ss L st h) : G Pens_turn d mc ms cs ss 140 L st h Q := G.run (by decide +kernel) hw
theorem B_Pens_turn_146 {d mc ms cs ss : Nat} {L : List (Option Value)} {st : List Value} {h : g_H} {Q : g_Po} (hw : g_wp Pens_turn d mc ms Q 149 [(146, 2, 0, 0, 0, 0, .iload 7), (148, 1, 0, 0, 0, 0, .ineg)] cs ss L st h) : G Pens_turn d mc ms cs ss 146 L st h Q := G.run (by decide +kernel) hw
theorem B_Pens_turn_149 {d mc ms cs ss : Nat} {L : List (Option Value)} {st : List Value} {h : g_H} {Q : g_Po} (hw : g_wp Pens_turn d mc ms Q 159 [(149, 1, 0, 0, 0, 0, .iadd), (150, 2, 0, 0, 0, 0, .istore 10), (152, 2, 0, 0, 0, 0, .iload 9), (154, 2, 0, 0, 0, 0, .iload 10), (156, 3, 24, 0, 1172, 2, .invokestatic 64)] cs ss L st h) : G Pens_turn d mc ms cs ss 149 L st h Q := G.run (by decide +kernel) hw
theorem B_Pens_turn_159 {d mc ms cs ss : Nat} {L : List (Option Value)} {st : List Value} {h : g_H} {Q : g_Po} (hw : g_wp Pens_turn d mc ms Q 162 [(159, 3, 165, 0, 0, 0, .ifCond .ne 6)] cs ss L st h) : G Pens_turn d mc ms cs ss 159 L st h Q := G.run (by decide +kernel) hw
theorem B_Pens_turn_162 {d mc ms cs ss : Nat} {L : List (Option Value)} {st : List Value} {h : g_H} {Q : g_Po} (hw : g_wp Pens_turn d mc ms Q 165 [(162, 2, 0, 0, 0, (-3), .bipush (-3)), (164, 1, 0, 0, 0, 0, .ireturn)] cs ss L st h) : G Pens_turn d mc ms cs ss 162 L st h Q := G.run (by decide +kernel) hw
theorem B_Pens_turn_165 {d mc ms cs ss : Nat} {L : List (Option Value)} {st : List Value} {h : g_H} {Q : g_Po} (hw : g_wp Pens_turn d mc ms Q 178 [(165, 1, 0, 0, 0, 0, .aload_n 0), (166, 3, 6, 2, 1139, 2, .getfield 22), (169, 2, 0, 0, 0, 0, .iload 6), (171, 2, 0, 0, 0, 0, .iload 9), (173, 2, 0, 0, 0, 0, .iload 10), (175, 3, 25, 0, 1207, 2, .invokestatic 81)] cs ss L st h) : G Pens_turn d mc ms cs ss 165 L st h Q := G.run (by decide +kernel) hw
theorem B_Pens_turn_178 {d mc ms cs ss : Nat} {L : List (Option Value)} {st : List Value} {h : g_H} {Q : g_Po} (hw : g_wp Pens_turn d mc ms Q 181 [(178, 3, 34, 2, 3071, 2, .invokevirtual 141)] cs ss L st h) : G Pens_turn d mc ms cs ss 178 L st h Q := G.run (by decide +kernel) hw
theorem B_Pens_turn_181 {d mc ms cs ss : Nat} {L : List (Option Value)} {st : List Value} {h : g_H} {Q : g_Po} (hw : g_wp Pens_turn d mc ms Q 187 [(181, 3, 0, 0, 0, 1, .iinc 6 1), (184, 3, 57, 0, 0, 0, .goto (-127))] cs ss L st h) : G Pens_turn d mc ms cs ss 181 L st h Q := G.run (by decide +kernel) hw
theorem B_Pens_turn_187 {d mc ms cs ss : Nat} {L : List (Option Value)} {st : List Value} {h : g_H} {Q : g_Po} (hw : g_wp Pens_turn d mc ms Q 198 [(187, 1, 0, 0, 0, 0, .aload_n 0), (188, 3, 6, 3, 1140, 2, .getfield 29), (191, 1, 0, 0, 0, 0, .aload_n 0), (192, 3, 6, 0, 1137, 2, .getfield 10), (195, 3, 7, 1, 1175, 1, .invokevirtual 77)] cs ss L st h) : G Pens_turn d mc ms cs ss 187 L st h Q := G.run (by decide +kernel) hw
theorem B_Pens_turn_198 {d mc ms cs ss : Nat} {L : List (Option Value)} {st : List Value} {h : g_H} {Q : g_Po} (hw : g_wp Pens_turn d mc ms Q 206 [(198, 1, 0, 0, 0, 0, .aload_n 3), (199, 1, 0, 0, 0, 0, .aload_n 0), (200, 3, 6, 2, 1139, 2, .getfield 22), (203, 3, 38, 2, 3009, 1, .invokevirtual 111)] cs ss L st h) : G Pens_turn d mc ms cs ss 198 L st h Q := G.run (by decide +kernel) hw
theorem B_Pens_turn_206 {d mc ms cs ss : Nat} {L : List (Option Value)} {st : List Value} {h : g_H} {Q : g_Po} (hw : g_wp Pens_turn d mc ms Q 210 [(206, 1, 0, 0, 0, 0, .aload_n 3), (207, 3, 40, 2, 1218, 0, .invokevirtual 89)] cs ss L st h) : G Pens_turn d mc ms cs ss 206 L st h Q := G.run (by decide +kernel) hw
theorem B_Pens_turn_210 {d mc ms cs ss : Nat} {L : List (Option Value)} {st : List Value} {h : g_H} {Q : g_Po} (hw : g_wp Pens_turn d mc ms Q 211 [(210, 1, 0, 0, 0, 0, .ireturn)] cs ss L st h) : G Pens_turn d mc ms cs ss 210 L st h Q := G.run (by decide +kernel) hw
/-! blocks of Pens_reverse -/
theorem ml_Pens_reverse : (g_m Pens_reverse).2.2.1 = 3 := rfl
theorem rt_Pens_reverse : (g_m Pens_reverse).2.2.2.1 = (some .int) := rfl
theorem B_Pens_reverse_0 {d mc ms cs ss : Nat} {L : List (Option Value)} {st : List Value} {h : g_H} {Q : g_Po} (hw : g_wp Pens_reverse d mc ms Q 8 [(0, 1, 0, 0, 0, 0, .aload_n 0), (1, 3, 6, 0, 1137, 2, .getfield 10), (4, 1, 0, 0, 0, 0, .iload_n 1), (5, 3, 1, 0, 2056, 1, .invokevirtual 100)] cs ss L st h) : G Pens_reverse d mc ms cs ss 0 L st h Q := G.run (by decide +kernel) hw
theorem B_Pens_reverse_8 {d mc ms cs ss : Nat} {L : List (Option Value)} {st : List Value} {h : g_H} {Q : g_Po} (hw : g_wp Pens_reverse d mc ms Q 13 [(8, 1, 0, 0, 0, 0, .astore_n 2), (9, 1, 0, 0, 0, 0, .aload_n 2), (10, 3, 15, 0, 0, 0, .ifnonnull 5)] cs ss L st h) : G Pens_reverse d mc ms cs ss 8 L st h Q := G.run (by decide +kernel) hw
theorem B_Pens_reverse_13 {d mc ms cs ss : Nat} {L : List (Option Value)} {st : List Value} {h : g_H} {Q : g_Po} (hw : g_wp Pens_reverse d mc ms Q 15 [(13, 1, 0, 0, 0, (-1), .iconst (-1)), (14, 1, 0, 0, 0, 0, .ireturn)] cs ss L st h) : G Pens_reverse d mc ms cs ss 13 L st h Q := G.run (by decide +kernel) hw
theorem B_Pens_reverse_15 {d mc ms cs ss : Nat} {L : List (Option Value)} {st : List Value} {h : g_H} {Q : g_Po} (hw : g_wp Pens_reverse d mc ms Q 26 [(15, 1, 0, 0, 0, 0, .aload_n 0), (16, 3, 6, 3, 1140, 2, .getfield 29), (19, 1, 0, 0, 0, 0, .aload_n 0), (20, 3, 6, 0, 1137, 2, .getfield 10), (23, 3, 7, 1, 1175, 1, .invokevirtual 77)] cs ss L st h) : G Pens_reverse d mc ms cs ss 15 L st h Q := G.run (by decide +kernel) hw
theorem B_Pens_reverse_26 {d mc ms cs ss : Nat} {L : List (Option Value)} {st : List Value} {h : g_H} {Q : g_Po} (hw : g_wp Pens_reverse d mc ms Q 30 [(26, 1, 0, 0, 0, 0, .aload_n 2), (27, 3, 43, 2, 3081, 0, .invokevirtual 148)] cs ss L st h) : G Pens_reverse d mc ms cs ss 26 L st h Q := G.run (by decide +kernel) hw
theorem B_Pens_reverse_30 {d mc ms cs ss : Nat} {L : List (Option Value)} {st : List Value} {h : g_H} {Q : g_Po} (hw : g_wp Pens_reverse d mc ms Q 34 [(30, 1, 0, 0, 0, 0, .aload_n 2), (31, 3, 39, 2, 3072, 0, .invokevirtual 145)] cs ss L st h) : G Pens_reverse d mc ms cs ss 30 L st h Q := G.run (by decide +kernel) hw
theorem B_Pens_reverse_34 {d mc ms cs ss : Nat} {L : List (Option Value)} {st : List Value} {h : g_H} {Q : g_Po} (hw : g_wp Pens_reverse d mc ms Q 35 [(34, 1, 0, 0, 0, 0, .ireturn)] cs ss L st h) : G Pens_reverse d mc ms cs ss 34 L st h Q := G.run (by decide +kernel) hw
/-! blocks of Pens_close -/
theorem ml_Pens_close : (g_m Pens_close).2.2.1 = 3 := rfl
theorem rt_Pens_close : (g_m Pens_close).2.2.2.1 = (some .int) := rfl
theorem B_Pens_close_0 {d mc ms cs ss : Nat} {L : List (Option Value)} {st : List Value} {h : g_H} {Q : g_Po} (hw : g_wp Pens_close d mc ms Q 8 [(0, 1, 0, 0, 0, 0, .aload_n 0), (1, 3, 6, 0, 1137, 2, .getfield 10), (4, 1, 0, 0, 0, 0, .iload_n 1), (5, 3, 1, 0, 2056, 1, .invokevirtual 100)] cs ss L st h) : G Pens_close d mc ms cs ss 0 L st h Q := G.run (by decide +kernel) hw
theorem B_Pens_close_8 {d mc ms cs ss : Nat} {L : List (Option Value)} {st : List Value} {h : g_H} {Q : g_Po} (hw : g_wp Pens_close d mc ms Q 13 [(8, 1, 0, 0, 0, 0, .astore_n 2), (9, 1, 0, 0, 0, 0, .aload_n 2), (10, 3, 15, 0, 0, 0, .ifnonnull 5)] cs ss L st h) : G Pens_close d mc ms cs ss 8 L st h Q := G.run (by decide +kernel) hw
theorem B_Pens_close_13 {d mc ms cs ss : Nat} {L : List (Option Value)} {st : List Value} {h : g_H} {Q : g_Po} (hw : g_wp Pens_close d mc ms Q 15 [(13, 1, 0, 0, 0, (-1), .iconst (-1)), (14, 1, 0, 0, 0, 0, .ireturn)] cs ss L st h) : G Pens_close d mc ms cs ss 13 L st h Q := G.run (by decide +kernel) hw
theorem B_Pens_close_15 {d mc ms cs ss : Nat} {L : List (Option Value)} {st : List Value} {h : g_H} {Q : g_Po} (hw : g_wp Pens_close d mc ms Q 22 [(15, 1, 0, 0, 0, 0, .aload_n 2), (16, 3, 2, 2, 1046, 1, .getfield 151), (19, 3, 41, 0, 0, 0, .ifCond .ne 22)] cs ss L st h) : G Pens_close d mc ms cs ss 15 L st h Q := G.run (by decide +kernel) hw
theorem B_Pens_close_22 {d mc ms cs ss : Nat} {L : List (Option Value)} {st : List Value} {h : g_H} {Q : g_Po} (hw : g_wp Pens_close d mc ms Q 30 [(22, 1, 0, 0, 0, 0, .aload_n 2), (23, 3, 2, 1, 1035, 0, .getfield 73), (26, 1, 0, 0, 0, 3, .iconst 3), (27, 3, 41, 0, 0, 0, .if_icmp .lt 14)] cs ss L st h) : G Pens_close d mc ms cs ss 22 L st h Q := G.run (by decide +kernel) hw
theorem B_Pens_close_30 {d mc ms cs ss : Nat} {L : List (Option Value)} {st : List Value} {h : g_H} {Q : g_Po} (hw : g_wp Pens_close d mc ms Q 34 [(30, 1, 0, 0, 0, 0, .aload_n 2), (31, 3, 39, 2, 3072, 0, .invokevirtual 145)] cs ss L st h) : G Pens_close d mc ms cs ss 30 L st h Q := G.run (by decide +kernel) hw
theorem B_Pens_close_34 {d mc ms cs ss : Nat} {L : List (Option Value)} {st : List Value} {h : g_H} {Q : g_Po} (hw : g_wp Pens_close d mc ms Q 38 [(34, 1, 0, 0, 0, 0, .aload_n 2), (35, 3, 40, 2, 1218, 0, .invokevirtual 89)] cs ss L st h) : G Pens_close d mc ms cs ss 34 L st h Q := G.run (by decide +kernel) hw
theorem B_Pens_close_38 {d mc ms cs ss : Nat} {L : List (Option Value)} {st : List Value} {h : g_H} {Q : g_Po} (hw : g_wp Pens_close d mc ms Q 41 [(38, 3, 44, 0, 0, 0, .if_icmp .ne 6)] cs ss L st h) : G Pens_close d mc ms cs ss 38 L st h Q := G.run (by decide +kernel) hw
theorem B_Pens_close_41 {d mc ms cs ss : Nat} {L : List (Option Value)} {st : List Value} {h : g_H} {Q : g_Po} (hw : g_wp Pens_close d mc ms Q 44 [(41, 2, 0, 0, 0, (-3), .bipush (-3)), (43, 1, 0, 0, 0, 0, .ireturn)] cs ss L st h) : G Pens_close d mc ms cs ss 41 L st h Q := G.run (by decide +kernel) hw
theorem B_Pens_close_44 {d mc ms cs ss : Nat} {L : List (Option Value)} {st : List Value} {h : g_H} {Q : g_Po} (hw : g_wp Pens_close d mc ms Q 55 [(44, 1, 0, 0, 0, 0, .aload_n 0), (45, 3, 6, 3, 1140, 2, .getfield 29), (48, 1, 0, 0, 0, 0, .aload_n 0), (49, 3, 6, 0, 1137, 2, .getfield 10), (52, 3, 7, 1, 1175, 1, .invokevirtual 77)] cs ss L st h) : G Pens_close d mc ms cs ss 44 L st h Q := G.run (by decide +kernel) hw
theorem B_Pens_close_55 {d mc ms cs ss : Nat} {L : List (Option Value)} {st : List Value} {h : g_H} {Q : g_Po} (hw : g_wp Pens_close d mc ms Q 65 [(55, 1, 0, 0, 0, 0, .aload_n 2), (56, 1, 0, 0, 0, 1, .iconst 1), (57, 3, 2, 2, 1046, 1, .putfield 151), (60, 1, 0, 0, 0, 0, .aload_n 2), (61, 3, 2, 1, 1035, 0, .getfield 73), (64, 1, 0, 0, 0, 0, .ireturn)] cs ss L st h) : G Pens_close d mc ms cs ss 55 L st h Q := G.run (by decide +kernel) hw
/-! blocks of Pens_split -/
theorem ml_Pens_split : (g_m Pens_split).2.2.1 = 4 := rfl
theorem rt_Pens_split : (g_m Pens_split).2.2.2.1 = (some .int) := rfl
theorem B_Pens_split_0 {d mc ms cs ss : Nat} {L : List (Option Value)} {st : List Value} {h : g_H} {Q : g_Po} (hw : g_wp Pens_split d mc ms Q 8 [(0, 1, 0, 0, 0, 0, .aload_n 0), (1, 3, 6, 0, 1137, 2, .getfield 10), (4, 1, 0, 0, 0, 0, .iload_n 1), (5, 3, 1, 0, 2056, 1, .invokevirtual 100)] cs ss L st h) : G Pens_split d mc ms cs ss 0 L st h Q := G.run (by decide +kernel) hw
theorem B_Pens_split_8 {d mc ms cs ss : Nat} {L : List (Option Value)} {st : List Value} {h : g_H} {Q : g_Po} (hw : g_wp Pens_split d mc ms Q 13 [(8, 1, 0, 0, 0, 0, .astore_n 3), (9, 1, 0, 0, 0, 0, .aload_n 3), (10, 3, 25, 0, 0, 0, .ifnull 15)] cs ss L st h) : G Pens_split d mc ms cs ss 8 L st h Q := G.run (by decide +kernel) hw
theorem B_Pens_split_13 {d mc ms cs ss : Nat} {L : List (Option Value)} {st : List Value} {h : g_H} {Q : g_Po} (hw : g_wp Pens_split d mc ms Q 17 [(13, 1, 0, 0, 0, 0, .iload_n 2), (14, 3, 25, 0, 0, 0, .ifCond .lt 11)] cs ss L st h) : G Pens_split d mc ms cs ss 13 L st h Q := G.run (by decide +kernel) hw
theorem B_Pens_split_17 {d mc ms cs ss : Nat} {L : List (Option Value)} {st : List Value} {h : g_H} {Q : g_Po} (hw : g_wp Pens_split d mc ms Q 25 [(17, 1, 0, 0, 0, 0, .iload_n 2), (18, 1, 0, 0, 0, 0, .aload_n 3), (19, 3, 2, 1, 1035, 0, .getfield 73), (22, 3, 27, 0, 0, 0, .if_icmp .lt 5)] cs ss L st h) : G Pens_split d mc ms cs ss 17 L st h Q := G.run (by decide +kernel) hw
theorem B_Pens_split_25 {d mc ms cs ss : Nat} {L : List (Option Value)} {st : List Value} {h : g_H} {Q : g_Po} (hw : g_wp Pens_split d mc ms Q 27 [(25, 1, 0, 0, 0, (-1), .iconst (-1)), (26, 1, 0, 0, 0, 0, .ireturn)] cs ss L st h) : G Pens_split d mc ms cs ss 25 L st h Q := G.run (by decide +kernel) hw
theorem B_Pens_split_27 {d mc ms cs ss : Nat} {L : List (Option Value)} {st : List Value} {h : g_H} {Q : g_Po} (hw : g_wp Pens_split d mc ms Q 34 [(27, 1, 0, 0, 0, 0, .aload_n 3), (28, 3, 2, 2, 1046, 1, .getfield 151), (31, 3, 51, 0, 0, 0, .ifCond .ne 20)] cs ss L st h) : G Pens_split d mc ms cs ss 27 L st h Q := G.run (by decide +kernel) hw
theorem B_Pens_split_34 {d mc ms cs ss : Nat} {L : List (Option Value)} {st : List Value} {h : g_H} {Q : g_Po} (hw : g_wp Pens_split d mc ms Q 38 [(34, 1, 0, 0, 0, 0, .iload_n 2), (35, 3, 48, 0, 0, 0, .ifCond .eq 13)] cs ss L st h) : G Pens_split d mc ms cs ss 34 L st h Q := G.run (by decide +kernel) hw
theorem B_Pens_split_38 {d mc ms cs ss : Nat} {L : List (Option Value)} {st : List Value} {h : g_H} {Q : g_Po} (hw : g_wp Pens_split d mc ms Q 48 [(38, 1, 0, 0, 0, 0, .iload_n 2), (39, 1, 0, 0, 0, 0, .aload_n 3), (40, 3, 2, 1, 1035, 0, .getfield 73), (43, 1, 0, 0, 0, 1, .iconst 1), (44, 1, 0, 0, 0, 0, .isub), (45, 3, 51, 0, 0, 0, .if_icmp .ne 6)] cs ss L st h) : G Pens_split d mc ms cs ss 38 L st h Q := G.run (by decide +kernel) hw
theorem B_Pens_split_48 {d mc ms cs ss : Nat} {L : List (Option Value)} {st : List Value} {h : g_H} {Q : g_Po} (hw : g_wp Pens_split d mc ms Q 51 [(48, 2, 0, 0, 0, (-3), .bipush (-3)), (50, 1, 0, 0, 0, 0, .ireturn)] cs ss L st h) : G Pens_split d mc ms cs ss 48 L st h Q := G.run (by decide +kernel) hw
theorem B_Pens_split_51 {d mc ms cs ss : Nat} {L : List (Option Value)} {st : List Value} {h : g_H} {Q : g_Po} (hw : g_wp Pens_split d mc ms Q 58 [(51, 1, 0, 0, 0, 0, .aload_n 3), (52, 3, 2, 2, 1046, 1, .getfield 151), (55, 3, 70, 0, 0, 0, .ifCond .eq 15)] cs ss L st h) : G Pens_split d mc ms cs ss 51 L st h Q := G.run (by decide +kernel) hw
theorem B_Pens_split_58 {d mc ms cs ss : Nat} {L : List (Option Value)} {st : List Value} {h : g_H} {Q : g_Po} (hw : g_wp Pens_split d mc ms Q 67 [(58, 1, 0, 0, 0, 0, .aload_n 3), (59, 3, 2, 1, 1035, 0, .getfield 73), (62, 2, 0, 0, 0, 30, .bipush 30), (64, 3, 85, 0, 0, 0, .if_icmp .lt 21)] cs ss L st h) : G Pens_split d mc ms cs ss 58 L st h Q := G.run (by decide +kernel) hw
theorem B_Pens_split_67 {d mc ms cs ss : Nat} {L : List (Option Value)} {st : List Value} {h : g_H} {Q : g_Po} (hw : g_wp Pens_split d mc ms Q 70 [(67, 3, 82, 0, 0, 0, .goto 15)] cs ss L st h) : G Pens_split d mc ms cs ss 67 L st h Q := G.run (by decide +kernel) hw
theorem B_Pens_split_70 {d mc ms cs ss : Nat} {L : List (Option Value)} {st : List Value} {h : g_H} {Q : g_Po} (hw : g_wp Pens_split d mc ms Q 82 [(70, 1, 0, 0, 0, 0, .aload_n 0), (71, 3, 6, 0, 1137, 2, .getfield 10), (74, 3, 0, 2, 1059, 0, .getfield 76), (77, 2, 0, 0, 0, 10, .bipush 10), (79, 3, 85, 0, 0, 0, .if_icmp .lt 6)] cs ss L st h) : G Pens_split d mc ms cs ss 70 L st h Q := G.run (by decide +kernel) hw
theorem B_Pens_split_82 {d mc ms cs ss : Nat} {L : List (Option Value)} {st : List Value} {h : g_H} {Q : g_Po} (hw : g_wp Pens_split d mc ms Q 85 [(82, 2, 0, 0, 0, (-4), .bipush (-4)), (84, 1, 0, 0, 0, 0, .ireturn)] cs ss L st h) : G Pens_split d mc ms cs ss 82 L st h Q := G.run (by decide +kernel) hw
theorem B_Pens_split_85 {d mc ms cs ss : Nat} {L : List (Option Value)} {st : List Value} {h : g_H} {Q : g_Po} (hw : g_wp Pens_split d mc ms Q 96 [(85, 1, 0, 0, 0, 0, .aload_n 0), (86, 3, 6, 3, 1140, 2, .getfield 29), (89, 1, 0, 0, 0, 0, .aload_n 0), (90, 3, 6, 0, 1137, 2, .getfield 10), (93, 3, 7, 1, 1175, 1, .invokevirtual 77)] cs ss L st h) : G Pens_split d mc ms cs ss 85 L st h Q := G.run (by decide +kernel) hw
theorem B_Pens_split_96 {d mc ms cs ss : Nat} {L : List (Option Value)} {st : List Value} {h : g_H} {Q : g_Po} (hw : g_wp Pens_split d mc ms Q 103 [(96, 1, 0, 0, 0, 0, .aload_n 3), (97, 3, 2, 2, 1046, 1, .getfield 151), (100, 3, 112, 0, 0, 0, .ifCond .eq 12)] cs ss L st h) : G Pens_split d mc ms cs ss 96 L st h Q := G.run (by decide +kernel) hw
theorem B_Pens_split_103 {d mc ms cs ss : Nat} {L : List (Option Value)} {st : List Value} {h : g_H} {Q : g_Po} (hw : g_wp Pens_split d mc ms Q 109 [(103, 1, 0, 0, 0, 0, .aload_n 0), (104, 1, 0, 0, 0, 0, .aload_n 3), (105, 1, 0, 0, 0, 0, .iload_n 2), (106, 3, 79, 6, 3090, 2, .invokevirtual 155)] cs ss L st h) : G Pens_split d mc ms cs ss 103 L st h Q := G.run (by decide +kernel) hw
theorem B_Pens_split_109 {d mc ms cs ss : Nat} {L : List (Option Value)} {st : List Value} {h : g_H} {Q : g_Po} (hw : g_wp Pens_split d mc ms Q 112 [(109, 3, 118, 0, 0, 0, .goto 9)] cs ss L st h) : G Pens_split d mc ms cs ss 109 L st h Q := G.run (by decide +kernel) hw
theorem B_Pens_split_112 {d mc ms cs ss : Nat} {L : List (Option Value)} {st : List Value} {h : g_H} {Q : g_Po} (hw : g_wp Pens_split d mc ms Q 118 [(112, 1, 0, 0, 0, 0, .aload_n 0), (113, 1, 0, 0, 0, 0, .aload_n 3), (114, 1, 0, 0, 0, 0, .iload_n 2), (115, 3, 80, 6, 3094, 2, .invokevirtual 159)] cs ss L st h) : G Pens_split d mc ms cs ss 112 L st h Q := G.run (by decide +kernel) hw
theorem B_Pens_split_118 {d mc ms cs ss : Nat} {L : List (Option Value)} {st : List Value} {h : g_H} {Q : g_Po} (hw : g_wp Pens_split d mc ms Q 126 [(118, 1, 0, 0, 0, 0, .aload_n 0), (119, 3, 6, 0, 1137, 2, .getfield 10), (122, 3, 0, 2, 1059, 0, .getfield 76), (125, 1, 0, 0, 0, 0, .ireturn)] cs ss L st h) : G Pens_split d mc ms cs ss 118 L st h Q := G.run (by decide +kernel) hw
/-! blocks of Pens_openAt -/
theorem ml_Pens_openAt : (g_m Pens_openAt).2.2.1 = 4 := rfl
theorem rt_Pens_openAt : (g_m Pens_openAt).2.2.2.1 = none := rfl
theorem B_Pens_openAt_0 {d mc ms cs ss : Nat} {L : List (Option Value)} {st : List Value} {h : g_H} {Q : g_Po} (hw : g_wp Pens_openAt d mc ms Q 7 [(0, 1, 0, 0, 0, 0, .aload_n 0), (1, 3, 6, 2, 1139, 2, .getfield 22), (4, 3, 36, 2, 1227, 0, .invokevirtual 97)] cs ss L st h) : G Pens_openAt d mc ms cs ss 0 L st h Q := G.run (by decide +kernel) hw
theorem B_Pens_openAt_7 {d mc ms cs ss : Nat} {L : List (Option Value)} {st : List Value} {h : g_H} {Q : g_Po} (hw : g_wp Pens_openAt d mc ms Q 9 [(7, 1, 0, 0, 0, 0, .iload_n 2), (8, 1, 0, 0, 0, 0, .istore_n 3)] cs ss L st h) : G Pens_openAt d mc ms cs ss 7 L st h Q := G.run (by decide +kernel) hw
theorem B_Pens_openAt_9 {d mc ms cs ss : Nat} {L : List (Option Value)} {st : List Value} {h : g_H} {Q : g_Po} (hw : g_wp Pens_openAt d mc ms Q 17 [(9, 1, 0, 0, 0, 0, .iload_n 3), (10, 1, 0, 0, 0, 0, .aload_n 1), (11, 3, 2, 1, 1035, 0, .getfield 73), (14, 3, 35, 0, 0, 0, .if_icmp .ge 21)] cs ss L st h) : G Pens_openAt d mc ms cs ss 9 L st h Q := G.run (by decide +kernel) hw
theorem B_Pens_openAt_17 {d mc ms cs ss : Nat} {L : List (Option Value)} {st : List Value} {h : g_H} {Q : g_Po} (hw : g_wp Pens_openAt d mc ms Q 26 [(17, 1, 0, 0, 0, 0, .aload_n 0), (18, 3, 6, 2, 1139, 2, .getfield 22), (21, 1, 0, 0, 0, 0, .aload_n 1), (22, 1, 0, 0, 0, 0, .iload_n 3), (23, 3, 33, 2, 2119, 1, .invokevirtual 131)] cs ss L st h) : G Pens_openAt d mc ms cs ss 17 L st h Q := G.run (by decide +kernel) hw
theorem B_Pens_openAt_26 {d mc ms cs ss : Nat} {L : List (Option Value)} {st : List Value} {h : g_H} {Q : g_Po} (hw : g_wp Pens_openAt d mc ms Q 29 [(26, 3, 35, 2, 1210, 1, .invokevirtual 85)] cs ss L st h) : G Pens_openAt d mc ms cs ss 26 L st h Q := G.run (by decide +kernel) hw
theorem B_Pens_openAt_29 {d mc ms cs ss : Nat} {L : List (Option Value)} {st : List Value} {h : g_H} {Q : g_Po} (hw : g_wp Pens_openAt d mc ms Q 35 [(29, 3, 0, 0, 0, 1, .iinc 3 1), (32, 3, 9, 0, 0, 0, .goto (-23))] cs ss L st h) : G Pens_openAt d mc ms cs ss 29 L st h Q := G.run (by decide +kernel) hw
theorem B_Pens_openAt_35 {d mc ms cs ss : Nat} {L : List (Option Value)} {st : List Value} {h : g_H} {Q : g_Po} (hw : g_wp Pens_openAt d mc ms Q 37 [(35, 1, 0, 0, 0, 0, .iconst 0), (36, 1, 0, 0, 0, 0, .istore_n 3)] cs ss L st h) : G Pens_openAt d mc ms cs ss 35 L st h Q := G.run (by decide +kernel) hw
theorem B_Pens_openAt_37 {d mc ms cs ss : Nat} {L : List (Option Value)} {st : List Value} {h : g_H} {Q : g_Po} (hw : g_wp Pens_openAt d mc ms Q 42 [(37, 1, 0, 0, 0, 0, .iload_n 3), (38, 1, 0, 0, 0, 0, .iload_n 2), (39, 3, 60, 0, 0, 0, .if_icmp .gt 21)] cs ss L st h) : G Pens_openAt d mc ms cs ss 37 L st h Q := G.run (by decide +kernel) hw
theorem B_Pens_openAt_42 {d mc ms cs ss : Nat} {L : List (Option Value)} {st : List Value} {h : g_H} {Q : g_Po} (hw : g_wp Pens_openAt d mc ms Q 51 [(42, 1, 0, 0, 0, 0, .aload_n 0), (43, 3, 6, 2, 1139, 2, .getfield 22), (46, 1, 0, 0, 0, 0, .aload_n 1), (47, 1, 0, 0, 0, 0, .iload_n 3), (48, 3, 33, 2, 2119, 1, .invokevirtual 131)] cs ss L st h) : G Pens_openAt d mc ms cs ss 42 L st h Q := G.run (by decide +kernel) hw
theorem B_Pens_openAt_51 {d mc ms cs ss : Nat} {L : List (Option Value)} {st : List Value} {h : g_H} {Q : g_Po} (hw : g_wp Pens_openAt d mc ms Q 54 [(51, 3, 35, 2, 1210, 1, .invokevirtual 85)] cs ss L st h) : G Pens_openAt d mc ms cs ss 51 L st h Q := G.run (by decide +kernel) hw
theorem B_Pens_openAt_54 {d mc ms cs ss : Nat} {L : List (Option Value)} {st : List Value} {h : g_H} {Q : g_Po} (hw : g_wp Pens_openAt d mc ms Q 60 [(54, 3, 0, 0, 0, 1, .iinc 3 1), (57, 3, 37, 0, 0, 0, .goto (-20))] cs ss L st h) : G Pens_openAt d mc ms cs ss 54 L st h Q := G.run (by decide +kernel) hw
theorem B_Pens_openAt_60 {d mc ms cs ss : Nat} {L : List (Option Value)} {st : List Value} {h : g_H} {Q : g_Po} (hw : g_wp Pens_openAt d mc ms Q 68 [(60, 1, 0, 0, 0, 0, .aload_n 1), (61, 1, 0, 0, 0, 0, .aload_n 0), (62, 3, 6, 2, 1139, 2, .getfield 22), (65, 3, 38, 2, 3009, 1, .invokevirtual 111)] cs ss L st h) : G Pens_openAt d mc ms cs ss 60 L st h Q := G.run (by decide +kernel) hw
theorem B_Pens_openAt_68 {d mc ms cs ss : Nat} {L : List (Option Value)} {st : List Value} {h : g_H} {Q : g_Po} (hw : g_wp Pens_openAt d mc ms Q 69 [(68, 1, 0, 0, 0, 0, .return_)] cs ss L st h) : G Pens_openAt d mc ms cs ss 68 L st h Q := G.run (by decide +kernel) hw
/-! blocks of Pens_cutAt -/
theorem ml_Pens_cutAt : (g_m Pens_cutAt).2.2.1 = 4 := rfl
theorem rt_Pens_cutAt : (g_m Pens_cutAt).2.2.2.1 = none := rfl
theorem B_Pens_cutAt_0 {d mc ms cs ss : Nat} {L : List (Option Value)} {st : List Value} {h : g_H} {Q : g_Po} (hw : g_wp Pens_cutAt d mc ms Q 7 [(0, 1, 0, 0, 0, 0, .aload_n 0), (1, 3, 6, 2, 1139, 2, .getfield 22), (4, 3, 36, 2, 1227, 0, .invokevirtual 97)] cs ss L st h) : G Pens_cutAt d mc ms cs ss 0 L st h Q := G.run (by decide +kernel) hw
theorem B_Pens_cutAt_7 {d mc ms cs ss : Nat} {L : List (Option Value)} {st : List Value} {h : g_H} {Q : g_Po} (hw : g_wp Pens_cutAt d mc ms Q 9 [(7, 1, 0, 0, 0, 0, .iload_n 2), (8, 1, 0, 0, 0, 0, .istore_n 3)] cs ss L st h) : G Pens_cutAt d mc ms cs ss 7 L st h Q := G.run (by decide +kernel) hw
theorem B_Pens_cutAt_9 {d mc ms cs ss : Nat} {L : List (Option Value)} {st : List Value} {h : g_H} {Q : g_Po} (hw : g_wp Pens_cutAt d mc ms Q 17 [(9, 1, 0, 0, 0, 0, .iload_n 3), (10, 1, 0, 0, 0, 0, .aload_n 1), (11, 3, 2, 1, 1035, 0, .getfield 73), (14, 3, 35, 0, 0, 0, .if_icmp .ge 21)] cs ss L st h) : G Pens_cutAt d mc ms cs ss 9 L st h Q := G.run (by decide +kernel) hw
theorem B_Pens_cutAt_17 {d mc ms cs ss : Nat} {L : List (Option Value)} {st : List Value} {h : g_H} {Q : g_Po} (hw : g_wp Pens_cutAt d mc ms Q 26 [(17, 1, 0, 0, 0, 0, .aload_n 0), (18, 3, 6, 2, 1139, 2, .getfield 22), (21, 1, 0, 0, 0, 0, .aload_n 1), (22, 1, 0, 0, 0, 0, .iload_n 3), (23, 3, 33, 2, 2119, 1, .invokevirtual 131)] cs ss L st h) : G Pens_cutAt d mc ms cs ss 17 L st h Q := G.run (by decide +kernel) hw
theorem B_Pens_cutAt_26 {d mc ms cs ss : Nat} {L : List (Option Value)} {st : List Value} {h : g_H} {Q : g_Po} (hw : g_wp Pens_cutAt d mc ms Q 29 [(26, 3, 35, 2, 1210, 1, .invokevirtual 85)] cs ss L st h) : G Pens_cutAt d mc ms cs ss 26 L st h Q := G.run (by decide +kernel) hw
theorem B_Pens_cutAt_29 {d mc ms cs ss : Nat} {L : List (Option Value)} {st : List Value} {h : g_H} {Q : g_Po} (hw : g_wp Pens_cutAt d mc ms Q 35 [(29, 3, 0, 0, 0, 1, .iinc 3 1), (32, 3, 9, 0, 0, 0, .goto (-23))] cs ss L st h) : G Pens_cutAt d mc ms cs ss 29 L st h Q := G.run (by decide +kernel) hw
theorem B_Pens_cutAt_35 {d mc ms cs ss : Nat} {L : List (Option Value)} {st : List Value} {h : g_H} {Q : g_Po} (hw : g_wp Pens_cutAt d mc ms Q 42 [(35, 1, 0, 0, 0, 0, .aload_n 1), (36, 1, 0, 0, 0, 0, .iload_n 2), (37, 1, 0, 0, 0, 1, .iconst 1), (38, 1, 0, 0, 0, 0, .iadd), (39, 3, 37, 2, 3098, 1, .invokevirtual 162)] cs ss L st h) : G Pens_cutAt d mc ms cs ss 35 L st h Q := G.run (by decide +kernel) hw
theorem B_Pens_cutAt_42 {d mc ms cs ss : Nat} {L : List (Option Value)} {st : List Value} {h : g_H} {Q : g_Po} (hw : g_wp Pens_cutAt d mc ms Q 53 [(42, 1, 0, 0, 0, 0, .aload_n 0), (43, 3, 6, 0, 1137, 2, .getfield 10), (46, 1, 0, 0, 0, 0, .aload_n 0), (47, 3, 6, 2, 1139, 2, .getfield 22), (50, 3, 2, 0, 1226, 1, .invokevirtual 93)] cs ss L st h) : G Pens_cutAt d mc ms cs ss 42 L st h Q := G.run (by decide +kernel) hw
theorem B_Pens_cutAt_53 {d mc ms cs ss : Nat} {L : List (Option Value)} {st : List Value} {h : g_H} {Q : g_Po} (hw : g_wp Pens_cutAt d mc ms Q 54 [(53, 1, 0, 0, 0, 0, .return_)] cs ss L st h) : G Pens_cutAt d mc ms cs ss 53 L st h Q := G.run (by decide +kernel) hw
/-! blocks of Pens_remove -/
theorem ml_Pens_remove : (g_m Pens_remove).2.2.1 = 2 := rfl
theorem rt_Pens_remove : (g_m Pens_remove).2.2.2.1 = (some .int) := rfl
theorem B_Pens_remove_0 {d mc ms cs ss : Nat} {L : List (Option Value)} {st : List Value} {h : g_H} {Q : g_Po} (hw : g_wp Pens_remove d mc ms Q 8 [(0, 1, 0, 0, 0, 0, .aload_n 0), (1, 3, 6, 0, 1137, 2, .getfield 10), (4, 1, 0, 0, 0, 0, .iload_n 1), (5, 3, 1, 0, 2056, 1, .invokevirtual 100)] cs ss L st h) : G Pens_remove d mc ms cs ss 0 L st h Q := G.run (by decide +kernel) hw
theorem B_Pens_remove_8 {d mc ms cs ss : Nat} {L : List (Option Value)} {st : List Value} {h : g_H} {Q : g_Po} (hw : g_wp Pens_remove d mc ms Q 11 [(8, 3, 13, 0, 0, 0, .ifnonnull 5)] cs ss L st h) : G Pens_remove d mc ms cs ss 8 L st h Q := G.run (by decide +kernel) hw
theorem B_Pens_remove_11 {d mc ms cs ss : Nat} {L : List (Option Value)} {st : List Value} {h : g_H} {Q : g_Po} (hw : g_wp Pens_remove d mc ms Q 13 [(11, 1, 0, 0, 0, (-1), .iconst (-1)), (12, 1, 0, 0, 0, 0, .ireturn)] cs ss L st h) : G Pens_remove d mc ms cs ss 11 L st h Q := G.run (by decide +kernel) hw
theorem B_Pens_remove_13 {d mc ms cs ss : Nat} {L : List (Option Value)} {st : List Value} {h : g_H} {Q : g_Po} (hw : g_wp Pens_remove d mc ms Q 24 [(13, 1, 0, 0, 0, 0, .aload_n 0), (14, 3, 6, 3, 1140, 2, .getfield 29), (17, 1, 0, 0, 0, 0, .aload_n 0), (18, 3, 6, 0, 1137, 2, .getfield 10), (21, 3, 7, 1, 1175, 1, .invokevirtual 77)] cs ss L st h) : G Pens_remove d mc ms cs ss 13 L st h Q := G.run (by decide +kernel) hw
theorem B_Pens_remove_24 {d mc ms cs ss : Nat} {L : List (Option Value)} {st : List Value} {h : g_H} {Q : g_Po} (hw : g_wp Pens_remove d mc ms Q 32 [(24, 1, 0, 0, 0, 0, .aload_n 0), (25, 3, 6, 0, 1137, 2, .getfield 10), (28, 1, 0, 0, 0, 0, .iload_n 1), (29, 3, 4, 0, 3108, 1, .invokevirtual 165)] cs ss L st h) : G Pens_remove d mc ms cs ss 24 L st h Q := G.run (by decide +kernel) hw
theorem B_Pens_remove_32 {d mc ms cs ss : Nat} {L : List (Option Value)} {st : List Value} {h : g_H} {Q : g_Po} (hw : g_wp Pens_remove d mc ms Q 40 [(32, 1, 0, 0, 0, 0, .aload_n 0), (33, 3, 6, 0, 1137, 2, .getfield 10), (36, 3, 0, 2, 1059, 0, .getfield 76), (39, 1, 0, 0, 0, 0, .ireturn)] cs ss L st h) : G Pens_remove d mc ms cs ss 32 L st h Q := G.run (by decide +kernel) hw
/-! blocks of Pens_toTop -/
theorem ml_Pens_toTop : (g_m Pens_toTop).2.2.1 = 2 := rfl
theorem rt_Pens_toTop : (g_m Pens_toTop).2.2.2.1 = (some .int) := rfl
theorem B_Pens_toTop_0 {d mc ms cs ss : Nat} {L : List (Option Value)} {st : List Value} {h : g_H} {Q : g_Po} (hw : g_wp Pens_toTop d mc ms Q 8 [(0, 1, 0, 0, 0, 0, .aload_n 0), (1, 3, 6, 0, 1137, 2, .getfield 10), (4, 1, 0, 0, 0, 0, .iload_n 1), (5, 3, 1, 0, 2056, 1, .invokevirtual 100)] cs ss L st h) : G Pens_toTop d mc ms cs ss 0 L st h Q := G.run (by decide +kernel) hw
theorem B_Pens_toTop_8 {d mc ms cs ss : Nat} {L : List (Option Value)} {st : List Value} {h : g_H} {Q : g_Po} (hw : g_wp Pens_toTop d mc ms Q 11 [(8, 3, 13, 0, 0, 0, .ifnonnull 5)] cs ss L st h) : G Pens_toTop d mc ms cs ss 8 L st h Q := G.run (by decide +kernel) hw
theorem B_Pens_toTop_11 {d mc ms cs ss : Nat} {L : List (Option Value)} {st : List Value} {h : g_H} {Q : g_Po} (hw : g_wp Pens_toTop d mc ms Q 13 [(11, 1, 0, 0, 0, (-1), .iconst (-1)), (12, 1, 0, 0, 0, 0, .ireturn)] cs ss L st h) : G Pens_toTop d mc ms cs ss 11 L st h Q := G.run (by decide +kernel) hw
theorem B_Pens_toTop_13 {d mc ms cs ss : Nat} {L : List (Option Value)} {st : List Value} {h : g_H} {Q : g_Po} (hw : g_wp Pens_toTop d mc ms Q 24 [(13, 1, 0, 0, 0, 0, .aload_n 0), (14, 3, 6, 3, 1140, 2, .getfield 29), (17, 1, 0, 0, 0, 0, .aload_n 0), (18, 3, 6, 0, 1137, 2, .getfield 10), (21, 3, 7, 1, 1175, 1, .invokevirtual 77)] cs ss L st h) : G Pens_toTop d mc ms cs ss 13 L st h Q := G.run (by decide +kernel) hw
theorem B_Pens_toTop_24 {d mc ms cs ss : Nat} {L : List (Option Value)} {st : List Value} {h : g_H} {Q : g_Po} (hw : g_wp Pens_toTop d mc ms Q 32 [(24, 1, 0, 0, 0, 0, .aload_n 0), (25, 3, 6, 0, 1137, 2, .getfield 10), (28, 1, 0, 0, 0, 0, .iload_n 1), (29, 3, 3, 0, 3103, 1, .invokevirtual 168)] cs ss L st h) : G Pens_toTop d mc ms cs ss 24 L st h Q := G.run (by decide +kernel) hw
theorem B_Pens_toTop_32 {d mc ms cs ss : Nat} {L : List (Option Value)} {st : List Value} {h : g_H} {Q : g_Po} (hw : g_wp Pens_toTop d mc ms Q 42 [(32, 1, 0, 0, 0, 0, .aload_n 0), (33, 3, 6, 0, 1137, 2, .getfield 10), (36, 3, 0, 2, 1059, 0, .getfield 76), (39, 1, 0, 0, 0, 1, .iconst 1), (40, 1, 0, 0, 0, 0, .isub), (41, 1, 0, 0, 0, 0, .ireturn)] cs ss L st h) : G Pens_toTop d mc ms cs ss 32 L st h Q := G.run (by decide +kernel) hw
theorem pt_of {x y : Int} (h : plc x y) : pt (1000 * x + y) := by omega
/-- a call that changes nothing or the cells of the object alone -/
abbrev PQ (P : Nat) (h : g_H) (Q : g_Po) (r : Int × Wd) : Prop := ∀ h', chg P (P + 208) h h' → pens h' P r.2 → Q (some (.int (I r.1))) h'
theorem Pens_down_c {d P : Nat} (hd : 8 ≤ d) {W : Wd} {x y : Int} {h : g_H} {Q : g_Po} (w : wfW W) (hp : pens h P W) (hx : i32 x) (hy : i32 y) (hQ : PQ P h Q (sp_down W x y)) : Call Pens_down d 0 0 [.ref P, .int (I x), .int (I y)] h Q := by
  have d1 : 1 ≤ d := by omega
  obtain ⟨⟨Ss, pn⟩, Hs, T, l⟩ := W
  obtain ⟨σ, hp⟩ := hp
  obtain ⟨p0, p1, p2, p3, p4, p5, p6, p7⟩ := hp.g
  obtain ⟨f, k1, k2, k3⟩ := id p1.pn
  have hlen : Ss.length ≤ 10 := p1.len
  unfold sp_down at hQ
  dsimp only at hQ
  refine Call.intro (by rfl) (Nat.le_of_ble_eq_true rfl) ?_
  refine G.eqL (L := [some (.ref _), some (.int _), some (.int _)]) rfl ?_
  refine B_Pens_down_0 ?_
  simp only [wp_cons, wp_nil, List.getElem?_cons_zero, List.getElem?_cons_succ, List.set_cons_zero, List.set_cons_succ, s_iload_n1, ldI_s, s_iload_n2, s_invokestatic, rc_s, ob_s, List.drop_succ_cons, List.drop_zero, List.take_succ_cons, List.take_zero, List.reverse_cons, List.reverse_nil, List.nil_append, List.cons_append, List.length_cons, List.length_nil, Nat.reduceEqDiff, eq_self, reduceIte, p1_s, p2_s, l1_s, d1, Int.reduceToNat, Nat.reduceAdd, Nat.reduceLeDiff, true_and, and_true, Nat.le_refl, true_implies, forall_const, not_false_eq_true, false_implies, not_true_eq_false, reduceCtorEq, tl_s, tl_n, rf_s, true_or, or_true, p0, p1.c, p4.c, k1.1]
  refine Plane_isPlace_c hx hy ?_
  by_cases c1 : plc x y
  · rw [if_neg (fun q => q c1)] at hQ
    rw [if_pos (show 0 ≤ x ∧ x ≤ 999 ∧ 0 ≤ y ∧ y ≤ 999 from c1)]
    by_cases c2 : 0 < pn.1.length
    · rw [if_pos c2] at hQ
      refine B_Pens_down_5 ?_
      simp only [wp_cons, wp_nil, List.getElem?_cons_zero, List.getElem?_cons_succ, List.set_cons_zero, List.set_cons_succ, s_ifCond_ne, p1_s, true_and, and_true, Nat.le_refl, true_implies, forall_const, not_false_eq_true, false_implies, not_true_eq_false, reduceCtorEq, tl_s, tl_n, rf_s, List.cons_append, List.nil_append, true_or, or_true, p0, p1.c, p4.c, k1.1]
      refine b_ne (by omega) (by omega) (fun cc => ?_) (fun cc => absurd cc (by omega))
      refine B_Pens_down_11 ?_
      simp only [wp_cons, wp_nil, List.getElem?_cons_zero, List.getElem?_cons_succ, List.set_cons_zero, List.set_cons_succ, s_aload_n0, ldA_r, ldA_n, ldA_s, s_getfield, pR_s, ob_s, gt_s, s_ifCond_le, p1_s, true_and, and_true, Nat.le_refl, true_implies, forall_const, not_false_eq_true, false_implies, not_true_eq_false, reduceCtorEq, tl_s, tl_n, rf_s, List.cons_append, List.nil_append, true_or, or_true, p0, p1.c, p4.c, k1.1]
      refine b_le (by omega) (by omega) (fun cc => absurd cc (by omega)) (fun cc => ?_)
      refine B_Pens_down_24 ?_
      simp only [wp_cons, wp_nil, List.getElem?_cons_zero, List.getElem?_cons_succ, List.set_cons_zero, List.set_cons_succ, s_bipush, s_ireturn, p1_s, rI_i, rI_z, rI_c, z_01, z_11, rt_Pens_down, true_and, and_true, Nat.le_refl, true_implies, forall_const, not_false_eq_true, false_implies, not_true_eq_false, reduceCtorEq, tl_s, tl_n, rf_s, List.cons_append, List.nil_append, true_or, or_true, p0, p1.c, p4.c, k1.1]
      exact hQ h chg.rf ⟨σ, hp⟩
    · rw [if_neg c2] at hQ
      by_cases c3 : 10 ≤ Ss.length
      · rw [if_pos c3] at hQ
        refine B_Pens_down_5 ?_
        simp only [wp_cons, wp_nil, List.getElem?_cons_zero, List.getElem?_cons_succ, List.set_cons_zero, List.set_cons_succ, s_ifCond_ne, p1_s, true_and, and_true, Nat.le_refl, true_implies, forall_const, not_false_eq_true, false_implies, not_true_eq_false, reduceCtorEq, tl_s, tl_n, rf_s, List.cons_append, List.nil_append, true_or, or_true, p0, p1.c, p4.c, k1.1]
        refine b_ne (by omega) (by omega) (fun cc => ?_) (fun cc => absurd cc (by omega))
        refine B_Pens_down_11 ?_
        simp only [wp_cons, wp_nil, List.getElem?_cons_zero, List.getElem?_cons_succ, List.set_cons_zero, List.set_cons_succ, s_aload_n0, ldA_r, ldA_n, ldA_s, s_getfield, pR_s, ob_s, gt_s, s_ifCond_le, p1_s, true_and, and_true, Nat.le_refl, true_implies, forall_const, not_false_eq_true, false_implies, not_true_eq_false, reduceCtorEq, tl_s, tl_n, rf_s, List.cons_append, List.nil_append, true_or, or_true, p0, p1.c, p4.c, k1.1]
        refine b_le (by omega) (by omega) (fun cc => ?_) (fun cc => absurd cc (by omega))
        refine B_Pens_down_27 ?_
        simp only [wp_cons, wp_nil, List.getElem?_cons_zero, List.getElem?_cons_succ, List.set_cons_zero, List.set_cons_succ, s_aload_n0, ldA_r, ldA_n, ldA_s, s_getfield, pR_s, ob_s, gt_s, s_bipush, s_if_icmp_lt, p2_s, true_and, and_true, Nat.le_refl, true_implies, forall_const, not_false_eq_true, false_implies, not_true_eq_false, reduceCtorEq, tl_s, tl_n, rf_s, List.cons_append, List.nil_append, true_or, or_true, p0, p1.c, p4.c, k1.1]
        refine b_lt (by omega) (by omega) (fun cc => absurd cc (by omega)) (fun cc => ?_)
        refine B_Pens_down_39 ?_
        simp only [wp_cons, wp_nil, List.getElem?_cons_zero, List.getElem?_cons_succ, List.set_cons_zero, List.set_cons_succ, s_bipush, s_ireturn, p1_s, rI_i, rI_z, rI_c, z_01, z_11, rt_Pens_down, true_and, and_true, Nat.le_refl, true_implies, forall_const, not_false_eq_true, false_implies, not_true_eq_false, reduceCtorEq, tl_s, tl_n, rf_s, List.cons_append, List.nil_append, true_or, or_true, p0, p1.c, p4.c, k1.1]
        exact hQ h chg.rf ⟨σ, hp⟩
      · rw [if_neg c3] at hQ
        refine B_Pens_down_5 ?_
        simp only [wp_cons, wp_nil, List.getElem?_cons_zero, List.getElem?_cons_succ, List.set_cons_zero, List.set_cons_succ, s_ifCond_ne, p1_s, true_and, and_true, Nat.le_refl, true_implies, forall_const, not_false_eq_true, false_implies, not_true_eq_false, reduceCtorEq, tl_s, tl_n, rf_s, List.cons_append, List.nil_append, true_or, or_true, p0, p1.c, p4.c, k1.1]
        refine b_ne (by omega) (by omega) (fun cc => ?_) (fun cc => absurd cc (by omega))
        refine B_Pens_down_11 ?_
        simp only [wp_cons, wp_nil, List.getElem?_cons_zero, List.getElem?_cons_succ, List.set_cons_zero, List.set_cons_succ, s_aload_n0, ldA_r, ldA_n, ldA_s, s_getfield, pR_s, ob_s, gt_s, s_ifCond_le, p1_s, true_and, and_true, Nat.le_refl, true_implies, forall_const, not_false_eq_true, false_implies, not_true_eq_false, reduceCtorEq, tl_s, tl_n, rf_s, List.cons_append, List.nil_append, true_or, or_true, p0, p1.c, p4.c, k1.1]
        refine b_le (by omega) (by omega) (fun cc => ?_) (fun cc => absurd cc (by omega))
        refine B_Pens_down_27 ?_
        simp only [wp_cons, wp_nil, List.getElem?_cons_zero, List.getElem?_cons_succ, List.set_cons_zero, List.set_cons_succ, s_aload_n0, ldA_r, ldA_n, ldA_s, s_getfield, pR_s, ob_s, gt_s, s_bipush, s_if_icmp_lt, p2_s, true_and, and_true, Nat.le_refl, true_implies, forall_const, not_false_eq_true, false_implies, not_true_eq_false, reduceCtorEq, tl_s, tl_n, rf_s, List.cons_append, List.nil_append, true_or, or_true, p0, p1.c, p4.c, k1.1]
        refine b_lt (by omega) (by omega) (fun cc => ?_) (fun cc => absurd cc (by omega))
        refine B_Pens_down_42 ?_
        simp only [wp_cons, wp_nil, List.getElem?_cons_zero, List.getElem?_cons_succ, List.set_cons_zero, List.set_cons_succ, s_aload_n0, ldA_r, ldA_n, ldA_s, s_getfield, pR_s, ob_s, gt_s, s_invokevirtual, rc_s, List.drop_succ_cons, List.drop_zero, List.take_succ_cons, List.take_zero, List.reverse_cons, List.reverse_nil, List.nil_append, List.cons_append, List.length_cons, List.length_nil, d1, Int.reduceToNat, Nat.reduceAdd, Nat.reduceLeDiff, true_and, and_true, Nat.le_refl, true_implies, forall_const, not_false_eq_true, false_implies, not_true_eq_false, reduceCtorEq, tl_s, tl_n, rf_s, true_or, or_true, p0, p1.c, p4.c, k1.1]
        refine History_save_c (by omega) p4 ⟨σ, p1⟩ (by omega) (fun h1 c1' b1 => ?_)
        have hp1 := hp.sv c1' b1
        obtain ⟨p0, p1, p2, p3, p4, p5, p6, p7⟩ := hp1.g
        obtain ⟨f, k1, k2, k3⟩ := id p1.pn
        refine B_Pens_down_53 ?_
        simp only [wp_cons, wp_nil, List.getElem?_cons_zero, List.getElem?_cons_succ, List.set_cons_zero, List.set_cons_succ, s_aload_n0, ldA_r, ldA_n, ldA_s, s_getfield, pR_s, ob_s, gt_s, s_iload_n1, ldI_s, s_iload_n2, s_invokestatic, rc_s, List.drop_succ_cons, List.drop_zero, List.take_succ_cons, List.take_zero, List.reverse_cons, List.reverse_nil, List.nil_append, List.cons_append, List.length_cons, List.length_nil, Nat.reduceEqDiff, eq_self, reduceIte, p1_s, p2_s, l1_s, d1, Int.reduceToNat, Nat.reduceAdd, Nat.reduceLeDiff, true_and, and_true, Nat.le_refl, true_implies, forall_const, not_false_eq_true, false_implies, not_true_eq_false, reduceCtorEq, tl_s, tl_n, rf_s, true_or, or_true, p0, p1.c, p4.c, k1.1]
        refine Plane_told_c ?_
        refine B_Pens_down_65 ?_
        simp only [wp_cons, wp_nil, List.getElem?_cons_zero, List.getElem?_cons_succ, List.set_cons_zero, List.set_cons_succ, s_invokevirtual, rc_s, ob_s, List.drop_succ_cons, List.drop_zero, List.take_succ_cons, List.take_zero, List.reverse_cons, List.reverse_nil, List.nil_append, List.cons_append, List.length_cons, List.length_nil, d1, Int.reduceToNat, Nat.reduceAdd, Nat.reduceLeDiff, true_and, and_true, Nat.le_refl, true_implies, forall_const, not_false_eq_true, false_implies, not_true_eq_false, reduceCtorEq, tl_s, tl_n, rf_s, true_or, or_true, p0, p1.c, p4.c, k1.1]
        refine Stroke_add_c p1.pn (by omega) (fun h2 c2' b2 => ?_)
        have hp2 := hp1.pn c2' b2
        obtain ⟨p0, p1, p2, p3, p4, p5, p6, p7⟩ := hp2.g
        refine B_Pens_down_68 ?_
        simp only [wp_cons, wp_nil, List.getElem?_cons_zero, List.getElem?_cons_succ, List.set_cons_zero, List.set_cons_succ, s_aload_n0, ldA_r, ldA_n, ldA_s, s_getfield, pR_s, ob_s, gt_s, s_ireturn, p1_s, rI_i, rI_z, rI_c, z_01, z_11, rt_Pens_down, true_and, and_true, Nat.le_refl, true_implies, forall_const, not_false_eq_true, false_implies, not_true_eq_false, reduceCtorEq, tl_s, tl_n, rf_s, List.cons_append, List.nil_append, true_or, or_true, p0, p1.c, p4.c]
        exact hQ h2 ((c1'.wd (by omega) (by omega)).tr (c2'.wd (by omega) (by omega))) ⟨σ, hp2⟩
  · rw [if_pos c1] at hQ
    rw [if_neg (show ¬ (0 ≤ x ∧ x ≤ 999 ∧ 0 ≤ y ∧ y ≤ 999) from c1)]
    refine B_Pens_down_5 ?_
    simp only [wp_cons, wp_nil, List.getElem?_cons_zero, List.getElem?_cons_succ, List.set_cons_zero, List.set_cons_succ, s_ifCond_ne, p1_s, true_and, and_true, Nat.le_refl, true_implies, forall_const, not_false_eq_true, false_implies, not_true_eq_false, reduceCtorEq, tl_s, tl_n, rf_s, List.cons_append, List.nil_append, true_or, or_true, p0, p1.c, p4.c]
    refine B_Pens_down_8 ?_
    simp only [wp_cons, wp_nil, List.getElem?_cons_zero, List.getElem?_cons_succ, List.set_cons_zero, List.set_cons_succ, s_bipush, s_ireturn, p1_s, rI_i, rI_z, rI_c, z_01, z_11, rt_Pens_down, true_and, and_true, Nat.le_refl, true_implies, forall_const, not_false_eq_true, false_implies, not_true_eq_false, reduceCtorEq, tl_s, tl_n, rf_s, List.cons_append, List.nil_append, true_or, or_true, p0, p1.c, p4.c]
    exact hQ h chg.rf ⟨σ, hp⟩
theorem Pens_draw_c {d P : Nat} (hd : 8 ≤ d) {W : Wd} {x y : Int} {h : g_H} {Q : g_Po} (w : wfW W) (hp : pens h P W) (hx : i32 x) (hy : i32 y) (hQ : PQ P h Q (sp_draw W x y)) : Call Pens_draw d 0 0 [.ref P, .int (I x), .int (I y)] h Q := by
  have d1 : 1 ≤ d := by omega
  obtain ⟨⟨Ss, pn⟩, Hs, T, l⟩ := W
  obtain ⟨σ, hp⟩ := hp
  obtain ⟨p0, p1, p2, p3, p4, p5, p6, p7⟩ := hp.g
  obtain ⟨f, k1, k2, k3⟩ := id p1.pn
  obtain ⟨v1, v2, v3, v4⟩ := w.g.2.1
  unfold sp_draw at hQ
  dsimp only at hQ v1 v2
  refine Call.intro (by rfl) (Nat.le_of_ble_eq_true rfl) ?_
  refine G.eqL (L := [some (.ref _), some (.int _), some (.int _)]) rfl ?_
  refine B_Pens_draw_0 ?_
  simp only [wp_cons, wp_nil, List.getElem?_cons_zero, List.getElem?_cons_succ, List.set_cons_zero, List.set_cons_succ, s_iload_n1, ldI_s, s_iload_n2, s_invokestatic, rc_s, ob_s, List.drop_succ_cons, List.drop_zero, List.take_succ_cons, List.take_zero, List.reverse_cons, List.reverse_nil, List.nil_append, List.cons_append, List.length_cons, List.length_nil, Nat.reduceEqDiff, eq_self, reduceIte, p1_s, p2_s, l1_s, d1, Int.reduceToNat, Nat.reduceAdd, Nat.reduceLeDiff, true_and, and_true, Nat.le_refl, true_implies, forall_const, not_false_eq_true, false_implies, not_true_eq_false, reduceCtorEq, tl_s, tl_n, rf_s, true_or, or_true, p0, p1.c, p4.c, k1.1]
  refine Plane_isPlace_c hx hy ?_
  by_cases c1 : plc x y
  · have c1b := pt_of c1
    rw [if_neg (fun q => q c1)] at hQ
    rw [if_pos (show 0 ≤ x ∧ x ≤ 999 ∧ 0 ≤ y ∧ y ≤ 999 from c1)]
    by_cases c2 : pn.1.length = 0
    · rw [if_pos (Or.inl c2)] at hQ
      refine B_Pens_draw_5 ?_
      simp only [wp_cons, wp_nil, List.getElem?_cons_zero, List.getElem?_cons_succ, List.set_cons_zero, List.set_cons_succ, s_ifCond_ne, p1_s, true_and, and_true, Nat.le_refl, true_implies, forall_const, not_false_eq_true, false_implies, not_true_eq_false, reduceCtorEq, tl_s, tl_n, rf_s, List.cons_append, List.nil_append, true_or, or_true, p0, p1.c, p4.c, k1.1]
      refine b_ne (by omega) (by omega) (fun cc => ?_) (fun cc => absurd cc (by omega))
      refine B_Pens_draw_11 ?_
      simp only [wp_cons, wp_nil, List.getElem?_cons_zero, List.getElem?_cons_succ, List.set_cons_zero, List.set_cons_succ, s_aload_n0, ldA_r, ldA_n, ldA_s, s_getfield, pR_s, ob_s, gt_s, s_ifCond_eq, p1_s, true_and, and_true, Nat.le_refl, true_implies, forall_const, not_false_eq_true, false_implies, not_true_eq_false, reduceCtorEq, tl_s, tl_n, rf_s, List.cons_append, List.nil_append, true_or, or_true, p0, p1.c, p4.c, k1.1]
      refine b_eq (by omega) (by omega) (fun cc => ?_) (fun cc => absurd cc (by omega))
      refine B_Pens_draw_42 ?_
      simp only [wp_cons, wp_nil, List.getElem?_cons_zero, List.getElem?_cons_succ, List.set_cons_zero, List.set_cons_succ, s_bipush, s_ireturn, p1_s, rI_i, rI_z, rI_c, z_01, z_11, rt_Pens_draw, true_and, and_true, Nat.le_refl, true_implies, forall_const, not_false_eq_true, false_implies, not_true_eq_false, reduceCtorEq, tl_s, tl_n, rf_s, List.cons_append, List.nil_append, true_or, or_true, p0, p1.c, p4.c, k1.1]
      exact hQ h chg.rf ⟨σ, hp⟩
    · have v5 := v2 (pn.1.length - 1) (by omega)
      refine B_Pens_draw_5 ?_
      simp only [wp_cons, wp_nil, List.getElem?_cons_zero, List.getElem?_cons_succ, List.set_cons_zero, List.set_cons_succ, s_ifCond_ne, p1_s, true_and, and_true, Nat.le_refl, true_implies, forall_const, not_false_eq_true, false_implies, not_true_eq_false, reduceCtorEq, tl_s, tl_n, rf_s, List.cons_append, List.nil_append, true_or, or_true, p0, p1.c, p4.c, k1.1]
      refine b_ne (by omega) (by omega) (fun cc => ?_) (fun cc => absurd cc (by omega))
      refine B_Pens_draw_11 ?_
      simp only [wp_cons, wp_nil, List.getElem?_cons_zero, List.getElem?_cons_succ, List.set_cons_zero, List.set_cons_succ, s_aload_n0, ldA_r, ldA_n, ldA_s, s_getfield, pR_s, ob_s, gt_s, s_ifCond_eq, p1_s, true_and, and_true, Nat.le_refl, true_implies, forall_const, not_false_eq_true, false_implies, not_true_eq_false, reduceCtorEq, tl_s, tl_n, rf_s, List.cons_append, List.nil_append, true_or, or_true, p0, p1.c, p4.c, k1.1]
      refine b_eq (by omega) (by omega) (fun cc => absurd cc (by omega)) (fun cc => ?_)
      refine B_Pens_draw_24 ?_
      simp only [wp_cons, wp_nil, List.getElem?_cons_zero, List.getElem?_cons_succ, List.set_cons_zero, List.set_cons_succ, s_aload_n0, ldA_r, ldA_n, ldA_s, s_getfield, pR_s, ob_s, gt_s, s_invokevirtual, rc_s, List.drop_succ_cons, List.drop_zero, List.take_succ_cons, List.take_zero, List.reverse_cons, List.reverse_nil, List.nil_append, List.cons_append, List.length_cons, List.length_nil, d1, Int.reduceToNat, Nat.reduceAdd, Nat.reduceLeDiff, true_and, and_true, Nat.le_refl, true_implies, forall_const, not_false_eq_true, false_implies, not_true_eq_false, reduceCtorEq, tl_s, tl_n, rf_s, true_or, or_true, p0, p1.c, p4.c, k1.1]
      refine Stroke_last_c (by omega) p1.pn (by omega) ?_
      refine B_Pens_draw_34 ?_
      simp only [wp_cons, wp_nil, List.getElem?_cons_zero, List.getElem?_cons_succ, List.set_cons_zero, List.set_cons_succ, s_iload_n1, ldI_s, s_iload_n2, s_invokestatic, rc_s, ob_s, List.drop_succ_cons, List.drop_zero, List.take_succ_cons, List.take_zero, List.reverse_cons, List.reverse_nil, List.nil_append, List.cons_append, List.length_cons, List.length_nil, Nat.reduceEqDiff, eq_self, reduceIte, p1_s, p2_s, l1_s, d1, Int.reduceToNat, Nat.reduceAdd, Nat.reduceLeDiff, true_and, and_true, Nat.le_refl, true_implies, forall_const, not_false_eq_true, false_implies, not_true_eq_false, reduceCtorEq, tl_s, tl_n, rf_s, true_or, or_true, p0, p1.c, p4.c, k1.1]
      refine Plane_told_c ?_
      by_cases c4 : pg pn.1 (pn.1.length - 1) = 1000 * x + y
      · rw [if_pos (Or.inr c4)] at hQ
        refine B_Pens_draw_39 ?_
        simp only [wp_cons, wp_nil, List.getElem?_cons_zero, List.getElem?_cons_succ, List.set_cons_zero, List.set_cons_succ, s_if_icmp_ne, p2_s, true_and, and_true, Nat.le_refl, true_implies, forall_const, not_false_eq_true, false_implies, not_true_eq_false, reduceCtorEq, tl_s, tl_n, rf_s, List.cons_append, List.nil_append, true_or, or_true, p0, p1.c, p4.c, k1.1]
        refine b_ne (by omega) (by omega) (fun cc => absurd cc (by omega)) (fun cc => ?_)
        refine B_Pens_draw_42 ?_
        simp only [wp_cons, wp_nil, List.getElem?_cons_zero, List.getElem?_cons_succ, List.set_cons_zero, List.set_cons_succ, s_bipush, s_ireturn, p1_s, rI_i, rI_z, rI_c, z_01, z_11, rt_Pens_draw, true_and, and_true, Nat.le_refl, true_implies, forall_const, not_false_eq_true, false_implies, not_true_eq_false, reduceCtorEq, tl_s, tl_n, rf_s, List.cons_append, List.nil_append, true_or, or_true, p0, p1.c, p4.c, k1.1]
        exact hQ h chg.rf ⟨σ, hp⟩
      · rw [if_neg (fun q => q.elim c2 c4)] at hQ
        by_cases c3 : 30 ≤ pn.1.length
        · rw [if_pos c3] at hQ
          refine B_Pens_draw_39 ?_
          simp only [wp_cons, wp_nil, List.getElem?_cons_zero, List.getElem?_cons_succ, List.set_cons_zero, List.set_cons_succ, s_if_icmp_ne, p2_s, true_and, and_true, Nat.le_refl, true_implies, forall_const, not_false_eq_true, false_implies, not_true_eq_false, reduceCtorEq, tl_s, tl_n, rf_s, List.cons_append, List.nil_append, true_or, or_true, p0, p1.c, p4.c, k1.1]
          refine b_ne (by omega) (by omega) (fun cc => ?_) (fun cc => absurd cc (by omega))
          refine B_Pens_draw_45 ?_
          simp only [wp_cons, wp_nil, List.getElem?_cons_zero, List.getElem?_cons_succ, List.set_cons_zero, List.set_cons_succ, s_aload_n0, ldA_r, ldA_n, ldA_s, s_getfield, pR_s, ob_s, gt_s, s_bipush, s_if_icmp_lt, p2_s, true_and, and_true, Nat.le_refl, true_implies, forall_const, not_false_eq_true, false_implies, not_true_eq_false, reduceCtorEq, tl_s, tl_n, rf_s, List.cons_append, List.nil_append, true_or, or_true, p0, p1.c, p4.c, k1.1]
          refine b_lt (by omega) (by omega) (fun cc => absurd cc (by omega)) (fun cc => ?_)
          refine B_Pens_draw_60 ?_
          simp only [wp_cons, wp_nil, List.getElem?_cons_zero, List.getElem?_cons_succ, List.set_cons_zero, List.set_cons_succ, s_bipush, s_ireturn, p1_s, rI_i, rI_z, rI_c, z_01, z_11, rt_Pens_draw, true_and, and_true, Nat.le_refl, true_implies, forall_const, not_false_eq_true, false_implies, not_true_eq_false, reduceCtorEq, tl_s, tl_n, rf_s, List.cons_append, List.nil_append, true_or, or_true, p0, p1.c, p4.c, k1.1]
          exact hQ h chg.rf ⟨σ, hp⟩
        · rw [if_neg c3] at hQ
          refine B_Pens_draw_39 ?_
          simp only [wp_cons, wp_nil, List.getElem?_cons_zero, List.getElem?_cons_succ, List.set_cons_zero, List.set_cons_succ, s_if_icmp_ne, p2_s, true_and, and_true, Nat.le_refl, true_implies, forall_const, not_false_eq_true, false_implies, not_true_eq_false, reduceCtorEq, tl_s, tl_n, rf_s, List.cons_append, List.nil_append, true_or, or_true, p0, p1.c, p4.c, k1.1]
          refine b_ne (by omega) (by omega) (fun cc => ?_) (fun cc => absurd cc (by omega))
          refine B_Pens_draw_45 ?_
          simp only [wp_cons, wp_nil, List.getElem?_cons_zero, List.getElem?_cons_succ, List.set_cons_zero, List.set_cons_succ, s_aload_n0, ldA_r, ldA_n, ldA_s, s_getfield, pR_s, ob_s, gt_s, s_bipush, s_if_icmp_lt, p2_s, true_and, and_true, Nat.le_refl, true_implies, forall_const, not_false_eq_true, false_implies, not_true_eq_false, reduceCtorEq, tl_s, tl_n, rf_s, List.cons_append, List.nil_append, true_or, or_true, p0, p1.c, p4.c, k1.1]
          refine b_lt (by omega) (by omega) (fun cc => ?_) (fun cc => absurd cc (by omega))
          refine B_Pens_draw_63 ?_
          simp only [wp_cons, wp_nil, List.getElem?_cons_zero, List.getElem?_cons_succ, List.set_cons_zero, List.set_cons_succ, s_aload_n0, ldA_r, ldA_n, ldA_s, s_getfield, pR_s, ob_s, gt_s, s_invokevirtual, rc_s, List.drop_succ_cons, List.drop_zero, List.take_succ_cons, List.take_zero, List.reverse_cons, List.reverse_nil, List.nil_append, List.cons_append, List.length_cons, List.length_nil, d1, Int.reduceToNat, Nat.reduceAdd, Nat.reduceLeDiff, true_and, and_true, Nat.le_refl, true_implies, forall_const, not_false_eq_true, false_implies, not_true_eq_false, reduceCtorEq, tl_s, tl_n, rf_s, true_or, or_true, p0, p1.c, p4.c, k1.1]
          refine History_save_c (by omega) p4 ⟨σ, p1⟩ (by omega) (fun h1 c1' b1 => ?_)
          have hp1 := hp.sv c1' b1
          obtain ⟨p0, p1, p2, p3, p4, p5, p6, p7⟩ := hp1.g
          obtain ⟨f, k1, k2, k3⟩ := id p1.pn
          refine B_Pens_draw_74 ?_
          simp only [wp_cons, wp_nil, List.getElem?_cons_zero, List.getElem?_cons_succ, List.set_cons_zero, List.set_cons_succ, s_aload_n0, ldA_r, ldA_n, ldA_s, s_getfield, pR_s, ob_s, gt_s, s_iload_n1, ldI_s, s_iload_n2, s_invokestatic, rc_s, List.drop_succ_cons, List.drop_zero, List.take_succ_cons, List.take_zero, List.reverse_cons, List.reverse_nil, List.nil_append, List.cons_append, List.length_cons, List.length_nil, Nat.reduceEqDiff, eq_self, reduceIte, p1_s, p2_s, l1_s, d1, Int.reduceToNat, Nat.reduceAdd, Nat.reduceLeDiff, true_and, and_true, Nat.le_refl, true_implies, forall_const, not_false_eq_true, false_implies, not_true_eq_false, reduceCtorEq, tl_s, tl_n, rf_s, true_or, or_true, p0, p1.c, p4.c, k1.1]
          refine Plane_told_c ?_
          refine B_Pens_draw_86 ?_
          simp only [wp_cons, wp_nil, List.getElem?_cons_zero, List.getElem?_cons_succ, List.set_cons_zero, List.set_cons_succ, s_invokevirtual, rc_s, ob_s, List.drop_succ_cons, List.drop_zero, List.take_succ_cons, List.take_zero, List.reverse_cons, List.reverse_nil, List.nil_append, List.cons_append, List.length_cons, List.length_nil, d1, Int.reduceToNat, Nat.reduceAdd, Nat.reduceLeDiff, true_and, and_true, Nat.le_refl, true_implies, forall_const, not_false_eq_true, false_implies, not_true_eq_false, reduceCtorEq, tl_s, tl_n, rf_s, true_or, or_true, p0, p1.c, p4.c, k1.1]
          refine Stroke_add_c p1.pn (by omega) (fun h2 c2' b2 => ?_)
          have hp2 := hp1.pn c2' b2
          obtain ⟨p0, p1, p2, p3, p4, p5, p6, p7⟩ := hp2.g
          obtain ⟨f, k1, k2, k3⟩ := id b2
          have e1 : ((pn.1 ++ [1000 * x + y]).length : Int) = pn.1.length + 1 := by simp
          refine B_Pens_draw_89 ?_
          simp only [wp_cons, wp_nil, List.getElem?_cons_zero, List.getElem?_cons_succ, List.set_cons_zero, List.set_cons_succ, s_aload_n0, ldA_r, ldA_n, ldA_s, s_getfield, pR_s, ob_s, gt_s, s_ireturn, p1_s, rI_i, rI_z, rI_c, z_01, z_11, rt_Pens_draw, true_and, and_true, Nat.le_refl, true_implies, forall_const, not_false_eq_true, false_implies, not_true_eq_false, reduceCtorEq, tl_s, tl_n, rf_s, List.cons_append, List.nil_append, true_or, or_true, p0, p1.c, p4.c, k1.1, e1]
          exact hQ h2 ((c1'.wd (by omega) (by omega)).tr (c2'.wd (by omega) (by omega))) ⟨σ, hp2⟩
  · rw [if_pos c1] at hQ
    rw [if_neg (show ¬ (0 ≤ x ∧ x ≤ 999 ∧ 0 ≤ y ∧ y ≤ 999) from c1)]
    refine B_Pens_draw_5 ?_
    simp only [wp_cons, wp_nil, List.getElem?_cons_zero, List.getElem?_cons_succ, List.set_cons_zero, List.set_cons_succ, s_ifCond_ne, p1_s, true_and, and_true, Nat.le_refl, true_implies, forall_const, not_false_eq_true, false_implies, not_true_eq_false, reduceCtorEq, tl_s, tl_n, rf_s, List.cons_append, List.nil_append, true_or, or_true, p0, p1.c, p4.c]
    refine B_Pens_draw_8 ?_
    simp only [wp_cons, wp_nil, List.getElem?_cons_zero, List.getElem?_cons_succ, List.set_cons_zero, List.set_cons_succ, s_bipush, s_ireturn, p1_s, rI_i, rI_z, rI_c, z_01, z_11, rt_Pens_draw, true_and, and_true, Nat.le_refl, true_implies, forall_const, not_false_eq_true, false_implies, not_true_eq_false, reduceCtorEq, tl_s, tl_n, rf_s, List.cons_append, List.nil_append, true_or, or_true, p0, p1.c, p4.c]
    exact hQ h chg.rf ⟨σ, hp⟩
theorem Pens_lift_c {d P : Nat} (hd : 8 ≤ d) {W : Wd} {h : g_H} {Q : g_Po} (w : wfW W) (hp : pens h P W) (hQ : PQ P h Q (sp_lift W)) : Call Pens_lift d 0 0 [.ref P] h Q := by
  have d1 : 1 ≤ d := by omega
  obtain ⟨⟨Ss, pn⟩, Hs, T, l⟩ := W
  obtain ⟨σ, hp⟩ := hp
  obtain ⟨p0, p1, p2, p3, p4, p5, p6, p7⟩ := hp.g
  obtain ⟨f, k1, k2, k3⟩ := id p1.pn
  have hlen : Ss.length ≤ 10 := p1.len
  unfold sp_lift at hQ
  dsimp only at hQ
  refine Call.intro (by rfl) (Nat.le_of_ble_eq_true rfl) ?_
  refine G.eqL (L := [some (.ref _), none, none]) rfl ?_
  by_cases c1 : pn.1.length = 0
  · rw [if_pos c1] at hQ
    refine B_Pens_lift_0 ?_
    simp only [wp_cons, wp_nil, List.getElem?_cons_zero, List.getElem?_cons_succ, List.set_cons_zero, List.set_cons_succ, s_aload_n0, ldA_r, ldA_n, ldA_s, s_getfield, pR_s, ob_s, gt_s, s_ifCond_ne, p1_s, true_and, and_true, Nat.le_refl, true_implies, forall_const, not_false_eq_true, false_implies, not_true_eq_false, reduceCtorEq, tl_s, tl_n, rf_s, List.cons_append, List.nil_append, true_or, or_true, p0, p1.c, p4.c, k1.1]
    refine b_ne (by omega) (by omega) (fun cc => absurd cc (by omega)) (fun cc => ?_)
    refine B_Pens_lift_13 ?_
    simp only [wp_cons, wp_nil, List.getElem?_cons_zero, List.getElem?_cons_succ, List.set_cons_zero, List.set_cons_succ, s_bipush, s_ireturn, p1_s, rI_i, rI_z, rI_c, z_01, z_11, rt_Pens_lift, true_and, and_true, Nat.le_refl, true_implies, forall_const, not_false_eq_true, false_implies, not_true_eq_false, reduceCtorEq, tl_s, tl_n, rf_s, List.cons_append, List.nil_append, true_or, or_true, p0, p1.c, p4.c, k1.1]
    exact hQ h chg.rf ⟨σ, hp⟩
  rw [if_neg c1] at hQ
  by_cases c2 : 2 ≤ pn.1.length
  · rw [if_pos c2] at hQ
    by_cases c3 : 10 ≤ Ss.length
    · rw [if_pos c3] at hQ
      refine B_Pens_lift_0 ?_
      simp only [wp_cons, wp_nil, List.getElem?_cons_zero, List.getElem?_cons_succ, List.set_cons_zero, List.set_cons_succ, s_aload_n0, ldA_r, ldA_n, ldA_s, s_getfield, pR_s, ob_s, gt_s, s_ifCond_ne, p1_s, true_and, and_true, Nat.le_refl, true_implies, forall_const, not_false_eq_true, false_implies, not_true_eq_false, reduceCtorEq, tl_s, tl_n, rf_s, List.cons_append, List.nil_append, true_or, or_true, p0, p1.c, p4.c, k1.1]
      refine b_ne (by omega) (by omega) (fun cc => ?_) (fun cc => absurd cc (by omega))
      refine B_Pens_lift_16 ?_
      simp only [wp_cons, wp_nil, List.getElem?_cons_zero, List.getElem?_cons_succ, List.set_cons_zero, List.set_cons_succ, s_aload_n0, ldA_r, ldA_n, ldA_s, s_getfield, pR_s, ob_s, gt_s, s_iconst, s_if_icmp_lt, p2_s, true_and, and_true, Nat.le_refl, true_implies, forall_const, not_false_eq_true, false_implies, not_true_eq_false, reduceCtorEq, tl_s, tl_n, rf_s, List.cons_append, List.nil_append, true_or, or_true, p0, p1.c, p4.c, k1.1]
      refine b_lt (by omega) (by omega) (fun cc => absurd cc (by omega)) (fun cc => ?_)
      refine B_Pens_lift_30 ?_
      simp only [wp_cons, wp_nil, List.getElem?_cons_zero, List.getElem?_cons_succ, List.set_cons_zero, List.set_cons_succ, s_iconst, s_goto, true_and, and_true, Nat.le_refl, true_implies, forall_const, not_false_eq_true, false_implies, not_true_eq_false, reduceCtorEq, tl_s, tl_n, rf_s, List.cons_append, List.nil_append, true_or, or_true, p0, p1.c, p4.c, k1.1]
      refine B_Pens_lift_35 ?_
      simp only [wp_cons, wp_nil, List.getElem?_cons_zero, List.getElem?_cons_succ, List.set_cons_zero, List.set_cons_succ, s_istore_n1, p1_s, s1_0, s1_s, kx_i, kx_r, kx_s, kx_n, kx_l, kx_0, s_iload_n1, ldI_s, s_ifCond_eq, true_and, and_true, Nat.le_refl, true_implies, forall_const, not_false_eq_true, false_implies, not_true_eq_false, reduceCtorEq, tl_s, tl_n, rf_s, List.cons_append, List.nil_append, true_or, or_true, p0, p1.c, p4.c, k1.1]
      refine b_eq (by omega) (by omega) (fun cc => absurd cc (by omega)) (fun cc => ?_)
      refine B_Pens_lift_40 ?_
      simp only [wp_cons, wp_nil, List.getElem?_cons_zero, List.getElem?_cons_succ, List.set_cons_zero, List.set_cons_succ, s_aload_n0, ldA_r, ldA_n, ldA_s, s_getfield, pR_s, ob_s, gt_s, s_bipush, s_if_icmp_lt, p2_s, true_and, and_true, Nat.le_refl, true_implies, forall_const, not_false_eq_true, false_implies, not_true_eq_false, reduceCtorEq, tl_s, tl_n, rf_s, List.cons_append, List.nil_append, true_or, or_true, p0, p1.c, p4.c, k1.1]
      refine b_lt (by omega) (by omega) (fun cc => absurd cc (by omega)) (fun cc => ?_)
      refine B_Pens_lift_52 ?_
      simp only [wp_cons, wp_nil, List.getElem?_cons_zero, List.getElem?_cons_succ, List.set_cons_zero, List.set_cons_succ, s_bipush, s_ireturn, p1_s, rI_i, rI_z, rI_c, z_01, z_11, rt_Pens_lift, true_and, and_true, Nat.le_refl, true_implies, forall_const, not_false_eq_true, false_implies, not_true_eq_false, reduceCtorEq, tl_s, tl_n, rf_s, List.cons_append, List.nil_append, true_or, or_true, p0, p1.c, p4.c, k1.1]
      exact hQ h chg.rf ⟨σ, hp⟩
    · rw [if_neg c3] at hQ
      refine B_Pens_lift_0 ?_
      simp only [wp_cons, wp_nil, List.getElem?_cons_zero, List.getElem?_cons_succ, List.set_cons_zero, List.set_cons_succ, s_aload_n0, ldA_r, ldA_n, ldA_s, s_getfield, pR_s, ob_s, gt_s, s_ifCond_ne, p1_s, true_and, and_true, Nat.le_refl, true_implies, forall_const, not_false_eq_true, false_implies, not_true_eq_false, reduceCtorEq, tl_s, tl_n, rf_s, List.cons_append, List.nil_append, true_or, or_true, p0, p1.c, p4.c, k1.1]
      refine b_ne (by omega) (by omega) (fun cc => ?_) (fun cc => absurd cc (by omega))
      refine B_Pens_lift_16 ?_
      simp only [wp_cons, wp_nil, List.getElem?_cons_zero, List.getElem?_cons_succ, List.set_cons_zero, List.set_cons_succ, s_aload_n0, ldA_r, ldA_n, ldA_s, s_getfield, pR_s, ob_s, gt_s, s_iconst, s_if_icmp_lt, p2_s, true_and, and_true, Nat.le_refl, true_implies, forall_const, not_false_eq_true, false_implies, not_true_eq_false, reduceCtorEq, tl_s, tl_n, rf_s, List.cons_append, List.nil_append, true_or, or_true, p0, p1.c, p4.c, k1.1]
      refine b_lt (by omega) (by omega) (fun cc => absurd cc (by omega)) (fun cc => ?_)
      refine B_Pens_lift_30 ?_
      simp only [wp_cons, wp_nil, List.getElem?_cons_zero, List.getElem?_cons_succ, List.set_cons_zero, List.set_cons_succ, s_iconst, s_goto, true_and, and_true, Nat.le_refl, true_implies, forall_const, not_false_eq_true, false_implies, not_true_eq_false, reduceCtorEq, tl_s, tl_n, rf_s, List.cons_append, List.nil_append, true_or, or_true, p0, p1.c, p4.c, k1.1]
      refine B_Pens_lift_35 ?_
      simp only [wp_cons, wp_nil, List.getElem?_cons_zero, List.getElem?_cons_succ, List.set_cons_zero, List.set_cons_succ, s_istore_n1, p1_s, s1_0, s1_s, kx_i, kx_r, kx_s, kx_n, kx_l, kx_0, s_iload_n1, ldI_s, s_ifCond_eq, true_and, and_true, Nat.le_refl, true_implies, forall_const, not_false_eq_true, false_implies, not_true_eq_false, reduceCtorEq, tl_s, tl_n, rf_s, List.cons_append, List.nil_append, true_or, or_true, p0, p1.c, p4.c, k1.1]
      refine b_eq (by omega) (by omega) (fun cc => absurd cc (by omega)) (fun cc => ?_)
      refine B_Pens_lift_40 ?_
      simp only [wp_cons, wp_nil, List.getElem?_cons_zero, List.getElem?_cons_succ, List.set_cons_zero, List.set_cons_succ, s_aload_n0, ldA_r, ldA_n, ldA_s, s_getfield, pR_s, ob_s, gt_s, s_bipush, s_if_icmp_lt, p2_s, true_and, and_true, Nat.le_refl, true_implies, forall_const, not_false_eq_true, false_implies, not_true_eq_false, reduceCtorEq, tl_s, tl_n, rf_s, List.cons_append, List.nil_append, true_or, or_true, p0, p1.c, p4.c, k1.1]
      refine b_lt (by omega) (by omega) (fun cc => ?_) (fun cc => absurd cc (by omega))
      refine B_Pens_lift_55 ?_
      simp only [wp_cons, wp_nil, List.getElem?_cons_zero, List.getElem?_cons_succ, List.set_cons_zero, List.set_cons_succ, s_aload_n0, ldA_r, ldA_n, ldA_s, s_getfield, pR_s, ob_s, gt_s, s_invokevirtual, rc_s, List.drop_succ_cons, List.drop_zero, List.take_succ_cons, List.take_zero, List.reverse_cons, List.reverse_nil, List.nil_append, List.cons_append, List.length_cons, List.length_nil, d1, Int.reduceToNat, Nat.reduceAdd, Nat.reduceLeDiff, true_and, and_true, Nat.le_refl, true_implies, forall_const, not_false_eq_true, false_implies, not_true_eq_false, reduceCtorEq, tl_s, tl_n, rf_s, true_or, or_true, p0, p1.c, p4.c, k1.1]
      refine History_save_c (by omega) p4 ⟨σ, p1⟩ (by omega) (fun h1 c1' b1 => ?_)
      have hp1 := hp.sv c1' b1
      obtain ⟨p0, p1, p2, p3, p4, p5, p6, p7⟩ := hp1.g
      refine B_Pens_lift_66 ?_
      simp only [wp_cons, wp_nil, List.getElem?_cons_zero, List.getElem?_cons_succ, List.set_cons_zero, List.set_cons_succ, s_bipush, s_istore_n2, p1_s, s1_0, s1_s, kx_i, kx_r, kx_s, kx_n, kx_l, kx_0, s_iload_n1, ldI_s, s_ifCond_eq, true_and, and_true, Nat.le_refl, true_implies, forall_const, not_false_eq_true, false_implies, not_true_eq_false, reduceCtorEq, tl_s, tl_n, rf_s, List.cons_append, List.nil_append, true_or, or_true, p0, p1.c, p4.c]
      refine b_eq (by omega) (by omega) (fun cc => absurd cc (by omega)) (fun cc => ?_)
      refine B_Pens_lift_73 ?_
      simp only [wp_cons, wp_nil, List.getElem?_cons_zero, List.getElem?_cons_succ, List.set_cons_zero, List.set_cons_succ, s_aload_n0, ldA_r, ldA_n, ldA_s, s_getfield, pR_s, ob_s, gt_s, s_istore_n2, p1_s, s1_0, s1_s, kx_i, kx_r, kx_s, kx_n, kx_l, kx_0, s_invokevirtual, rc_s, List.drop_succ_cons, List.drop_zero, List.take_succ_cons, List.take_zero, List.reverse_cons, List.reverse_nil, List.nil_append, List.cons_append, List.length_cons, List.length_nil, d1, Int.reduceToNat, Nat.reduceAdd, Nat.reduceLeDiff, true_and, and_true, Nat.le_refl, true_implies, forall_const, not_false_eq_true, false_implies, not_true_eq_false, reduceCtorEq, tl_s, tl_n, rf_s, true_or, or_true, p0, p1.c, p4.c]
      refine Drawing_append_c (by omega) p1 (by omega) p1.pn (by omega) (fun h2 c2' b2 => ?_)
      have hp2 := hp1.dr (s' := (Ss ++ [pn], pn)) (c2'.wd (by omega) (by omega)) b2
      obtain ⟨p0, p1, p2, p3, p4, p5, p6, p7⟩ := hp2.g
      obtain ⟨f, k1, k2, k3⟩ := id p1.pn
      refine B_Pens_lift_95 ?_
      simp only [wp_cons, wp_nil, List.getElem?_cons_zero, List.getElem?_cons_succ, List.set_cons_zero, List.set_cons_succ, s_aload_n0, ldA_r, ldA_n, ldA_s, s_getfield, pR_s, ob_s, gt_s, s_invokevirtual, rc_s, List.drop_succ_cons, List.drop_zero, List.take_succ_cons, List.take_zero, List.reverse_cons, List.reverse_nil, List.nil_append, List.cons_append, List.length_cons, List.length_nil, d1, Int.reduceToNat, Nat.reduceAdd, Nat.reduceLeDiff, true_and, and_true, Nat.le_refl, true_implies, forall_const, not_false_eq_true, false_implies, not_true_eq_false, reduceCtorEq, tl_s, tl_n, rf_s, true_or, or_true, p0, p1.c, p4.c, k1.1]
      refine Stroke_empty_c p1.pn.x (fun h3 c3' b3 => ?_)
      have hp3 := hp2.pn (c3'.wd (by omega) (by omega)) b3
      refine B_Pens_lift_105 ?_
      simp only [wp_cons, wp_nil, List.getElem?_cons_zero, List.getElem?_cons_succ, List.set_cons_zero, List.set_cons_succ, s_iload_n2, ldI_s, s_ireturn, p1_s, rI_i, rI_z, rI_c, z_01, z_11, rt_Pens_lift, true_and, and_true, Nat.le_refl, true_implies, forall_const, not_false_eq_true, false_implies, not_true_eq_false, reduceCtorEq, tl_s, tl_n, rf_s, List.cons_append, List.nil_append, true_or, or_true, p0, p1.c, p4.c, k1.1]
      exact hQ h3 (((c1'.wd (by omega) (by omega)).tr (c2'.wd (by omega) (by omega))).tr (c3'.wd (by omega) (by omega))) ⟨σ, hp3⟩
  · rw [if_neg c2] at hQ
    refine B_Pens_lift_0 ?_
    simp only [wp_cons, wp_nil, List.getElem?_cons_zero, List.getElem?_cons_succ, List.set_cons_zero, List.set_cons_succ, s_aload_n0, ldA_r, ldA_n, ldA_s, s_getfield, pR_s, ob_s, gt_s, s_ifCond_ne, p1_s, true_and, and_true, Nat.le_refl, true_implies, forall_const, not_false_eq_true, false_implies, not_true_eq_false, reduceCtorEq, tl_s, tl_n, rf_s, List.cons_append, List.nil_append, true_or, or_true, p0, p1.c, p4.c, k1.1]
    refine b_ne (by omega) (by omega) (fun cc => ?_) (fun cc => absurd cc (by omega))
    refine B_Pens_lift_16 ?_
    simp only [wp_cons, wp_nil, List.getElem?_cons_zero, List.getElem?_cons_succ, List.set_cons_zero, List.set_cons_succ, s_aload_n0, ldA_r, ldA_n, ldA_s, s_getfield, pR_s, ob_s, gt_s, s_iconst, s_if_icmp_lt, p2_s, true_and, and_true, Nat.le_refl, true_implies, forall_const, not_false_eq_true, false_implies, not_true_eq_false, reduceCtorEq, tl_s, tl_n, rf_s, List.cons_append, List.nil_append, true_or, or_true, p0, p1.c, p4.c, k1.1]
    refine b_lt (by omega) (by omega) (fun cc => ?_) (fun cc => absurd cc (by omega))
    refine B_Pens_lift_34 ?_
    simp only [wp_cons, wp_nil, List.getElem?_cons_zero, List.getElem?_cons_succ, List.set_cons_zero, List.set_cons_succ, s_iconst, true_and, and_true, Nat.le_refl, true_implies, forall_const, not_false_eq_true, false_implies, not_true_eq_false, reduceCtorEq, tl_s, tl_n, rf_s, List.cons_append, List.nil_append, true_or, or_true, p0, p1.c, p4.c, k1.1]
    refine B_Pens_lift_35 ?_
    simp only [wp_cons, wp_nil, List.getElem?_cons_zero, List.getElem?_cons_succ, List.set_cons_zero, List.set_cons_succ, s_istore_n1, p1_s, s1_0, s1_s, kx_i, kx_r, kx_s, kx_n, kx_l, kx_0, s_iload_n1, ldI_s, s_ifCond_eq, true_and, and_true, Nat.le_refl, true_implies, forall_const, not_false_eq_true, false_implies, not_true_eq_false, reduceCtorEq, tl_s, tl_n, rf_s, List.cons_append, List.nil_append, true_or, or_true, p0, p1.c, p4.c, k1.1]
    refine B_Pens_lift_55 ?_
    simp only [wp_cons, wp_nil, List.getElem?_cons_zero, List.getElem?_cons_succ, List.set_cons_zero, List.set_cons_succ, s_aload_n0, ldA_r, ldA_n, ldA_s, s_getfield, pR_s, ob_s, gt_s, s_invokevirtual, rc_s, List.drop_succ_cons, List.drop_zero, List.take_succ_cons, List.take_zero, List.reverse_cons, List.reverse_nil, List.nil_append, List.cons_append, List.length_cons, List.length_nil, d1, Int.reduceToNat, Nat.reduceAdd, Nat.reduceLeDiff, true_and, and_true, Nat.le_refl, true_implies, forall_const, not_false_eq_true, false_implies, not_true_eq_false, reduceCtorEq, tl_s, tl_n, rf_s, true_or, or_true, p0, p1.c, p4.c, k1.1]
    refine History_save_c (by omega) p4 ⟨σ, p1⟩ (by omega) (fun h1 c1' b1 => ?_)
    have hp1 := hp.sv c1' b1
    obtain ⟨p0, p1, p2, p3, p4, p5, p6, p7⟩ := hp1.g
    obtain ⟨f, k1, k2, k3⟩ := id p1.pn
    refine B_Pens_lift_66 ?_
    simp only [wp_cons, wp_nil, List.getElem?_cons_zero, List.getElem?_cons_succ, List.set_cons_zero, List.set_cons_succ, s_bipush, s_istore_n2, p1_s, s1_0, s1_s, kx_i, kx_r, kx_s, kx_n, kx_l, kx_0, s_iload_n1, ldI_s, s_ifCond_eq, true_and, and_true, Nat.le_refl, true_implies, forall_const, not_false_eq_true, false_implies, not_true_eq_false, reduceCtorEq, tl_s, tl_n, rf_s, List.cons_append, List.nil_append, true_or, or_true, p0, p1.c, p4.c, k1.1]
    refine B_Pens_lift_95 ?_
    simp only [wp_cons, wp_nil, List.getElem?_cons_zero, List.getElem?_cons_succ, List.set_cons_zero, List.set_cons_succ, s_aload_n0, ldA_r, ldA_n, ldA_s, s_getfield, pR_s, ob_s, gt_s, s_invokevirtual, rc_s, List.drop_succ_cons, List.drop_zero, List.take_succ_cons, List.take_zero, List.reverse_cons, List.reverse_nil, List.nil_append, List.cons_append, List.length_cons, List.length_nil, d1, Int.reduceToNat, Nat.reduceAdd, Nat.reduceLeDiff, true_and, and_true, Nat.le_refl, true_implies, forall_const, not_false_eq_true, false_implies, not_true_eq_false, reduceCtorEq, tl_s, tl_n, rf_s, true_or, or_true, p0, p1.c, p4.c, k1.1]
    refine Stroke_empty_c p1.pn.x (fun h3 c3' b3 => ?_)
    have hp3 := hp1.pn (c3'.wd (by omega) (by omega)) b3
    refine B_Pens_lift_105 ?_
    simp only [wp_cons, wp_nil, List.getElem?_cons_zero, List.getElem?_cons_succ, List.set_cons_zero, List.set_cons_succ, s_iload_n2, ldI_s, s_ireturn, p1_s, rI_i, rI_z, rI_c, z_01, z_11, rt_Pens_lift, true_and, and_true, Nat.le_refl, true_implies, forall_const, not_false_eq_true, false_implies, not_true_eq_false, reduceCtorEq, tl_s, tl_n, rf_s, List.cons_append, List.nil_append, true_or, or_true, p0, p1.c, p4.c, k1.1]
    exact hQ h3 ((c1'.wd (by omega) (by omega)).tr (c3'.wd (by omega) (by omega))) ⟨σ, hp3⟩
theorem Pens_line_c {d P : Nat} {W : Wd} {h : g_H} {Q : g_Po} (hp : pens h P W) (hQ : Q (some (.int (I (sp_line W).1))) h) : Call Pens_line d 0 0 [.ref P] h Q := by
  obtain ⟨⟨Ss, pn⟩, Hs, T, l⟩ := W
  obtain ⟨σ, hp⟩ := hp
  obtain ⟨p0, p1, p2, p3, p4, p5, p6, p7⟩ := hp.g
  obtain ⟨f, k1, k2, k3⟩ := id p1.pn
  refine Call.intro (by rfl) (Nat.le_of_ble_eq_true rfl) ?_
  refine G.eqL (L := [some (.ref _)]) rfl ?_
  refine B_Pens_line_0 ?_
  simp only [wp_cons, wp_nil, List.getElem?_cons_zero, List.getElem?_cons_succ, List.set_cons_zero, List.set_cons_succ, s_aload_n0, ldA_r, ldA_n, ldA_s, s_getfield, pR_s, ob_s, gt_s, s_ireturn, p1_s, rI_i, rI_z, rI_c, z_01, z_11, rt_Pens_line, true_and, and_true, Nat.le_refl, true_implies, forall_const, not_false_eq_true, false_implies, not_true_eq_false, reduceCtorEq, tl_s, tl_n, rf_s, List.cons_append, List.nil_append, true_or, or_true, p0, p1.c, p4.c, k1.1]
  exact hQ
theorem nat_of {s : Int} {n : Nat} (h : 0 ≤ s ∧ s < n) : ∃ i : Nat, s = i ∧ i < n := ⟨s.toNat, by omega, by omega⟩
theorem tn_i (i : Nat) : ((i : Int)).toNat = i := rfl
theorem Pens_simp_c {d P : Nat} (hd : 8 ≤ d) {W : Wd} {s t : Int} {h : g_H} {Q : g_Po} (w : wfW W) (hp : pens h P W) (hs : i32 s) (ht : i32 t) (hQ : PQ P h Q (sp_simp W s t)) : Call Pens_simplify d 0 0 [.ref P, .int (I s), .int (I t)] h Q := by
  have d1 : 1 ≤ d := by omega
  obtain ⟨⟨Ss, pn⟩, Hs, T, l⟩ := W
  obtain ⟨σ, hp⟩ := hp
  obtain ⟨p0, p1, p2, p3, p4, p5, p6, p7⟩ := hp.g
  have hlen : Ss.length ≤ 10 := p1.len
  unfold sp_simp at hQ
  dsimp only at hQ
  refine Call.intro (by rfl) (Nat.le_of_ble_eq_true rfl) ?_
  refine G.eqL (L := [some (.ref _), some (.int _), some (.int _), none]) rfl ?_
  refine B_Pens_simplify_0 ?_
  simp only [wp_cons, wp_nil, List.getElem?_cons_zero, List.getElem?_cons_succ, List.set_cons_zero, List.set_cons_succ, s_aload_n0, ldA_r, ldA_n, ldA_s, s_getfield, pR_s, ob_s, gt_s, s_iload_n1, ldI_s, s_invokevirtual, rc_s, List.drop_succ_cons, List.drop_zero, List.take_succ_cons, List.take_zero, List.reverse_cons, List.reverse_nil, List.nil_append, List.cons_append, List.length_cons, List.length_nil, d1, Int.reduceToNat, Nat.reduceAdd, Nat.reduceLeDiff, true_and, and_true, Nat.le_refl, true_implies, forall_const, not_false_eq_true, false_implies, not_true_eq_false, reduceCtorEq, tl_s, tl_n, rf_s, true_or, or_true, p0, p1.c, p4.c]
  by_cases c1 : inS Ss s
  · rw [if_neg (fun q => q c1)] at hQ
    obtain ⟨i, rfl, hi⟩ := nat_of c1
    rw [tn_i] at hQ
    refine Drawing_find_c p1 hi ?_
    by_cases c2 : 0 ≤ t ∧ t ≤ 200
    · rw [if_neg (fun q => q c2)] at hQ
      refine B_Pens_simplify_8 ?_
      simp only [wp_cons, wp_nil, List.getElem?_cons_zero, List.getElem?_cons_succ, List.set_cons_zero, List.set_cons_succ, s_astore_n3, pA_r, pA_n, s1_0, s1_s, kx_i, kx_r, kx_s, kx_n, kx_l, kx_0, s_aload_n3, ldA_r, ldA_n, ldA_s, s_ifnonnull, true_and, and_true, Nat.le_refl, true_implies, forall_const, not_false_eq_true, false_implies, not_true_eq_false, reduceCtorEq, tl_s, tl_n, rf_s, List.cons_append, List.nil_append, true_or, or_true, p0, p1.c, p4.c]
      refine B_Pens_simplify_15 ?_
      simp only [wp_cons, wp_nil, List.getElem?_cons_zero, List.getElem?_cons_succ, List.set_cons_zero, List.set_cons_succ, s_iload_n2, ldI_s, s_ifCond_lt, p1_s, true_and, and_true, Nat.le_refl, true_implies, forall_const, not_false_eq_true, false_implies, not_true_eq_false, reduceCtorEq, tl_s, tl_n, rf_s, List.cons_append, List.nil_append, true_or, or_true, p0, p1.c, p4.c]
      refine b_lt (by omega) (by omega) (fun cc => absurd cc (by omega)) (fun cc => ?_)
      refine B_Pens_simplify_19 ?_
      simp only [wp_cons, wp_nil, List.getElem?_cons_zero, List.getElem?_cons_succ, List.set_cons_zero, List.set_cons_succ, s_iload_n2, ldI_s, s_sipush, s_if_icmp_le, p2_s, true_and, and_true, Nat.le_refl, true_implies, forall_const, not_false_eq_true, false_implies, not_true_eq_false, reduceCtorEq, tl_s, tl_n, rf_s, List.cons_append, List.nil_append, true_or, or_true, p0, p1.c, p4.c]
      refine b_le (by omega) (by omega) (fun cc => ?_) (fun cc => absurd cc (by omega))
      refine B_Pens_simplify_29 ?_
      simp only [wp_cons, wp_nil, List.getElem?_cons_zero, List.getElem?_cons_succ, List.set_cons_zero, List.set_cons_succ, s_aload_n0, ldA_r, ldA_n, ldA_s, s_getfield, pR_s, ob_s, gt_s, s_invokevirtual, rc_s, List.drop_succ_cons, List.drop_zero, List.take_succ_cons, List.take_zero, List.reverse_cons, List.reverse_nil, List.nil_append, List.cons_append, List.length_cons, List.length_nil, d1, Int.reduceToNat, Nat.reduceAdd, Nat.reduceLeDiff, true_and, and_true, Nat.le_refl, true_implies, forall_const, not_false_eq_true, false_implies, not_true_eq_false, reduceCtorEq, tl_s, tl_n, rf_s, true_or, or_true, p0, p1.c, p4.c]
      refine History_save_c (by omega) p4 ⟨σ, p1⟩ (by omega) (fun h1 c1' b1 => ?_)
      have hp1 := hp.sv c1' b1
      obtain ⟨p0, p1, p2, p3, p4, p5, p6, p7⟩ := hp1.g
      have sl := p1.sl (i := i) (by omega)
      have st := p1.st hi
      have ws := w.g.1.2 i hi
      refine B_Pens_simplify_40 ?_
      simp only [wp_cons, wp_nil, List.getElem?_cons_zero, List.getElem?_cons_succ, List.set_cons_zero, List.set_cons_succ, s_aload_n0, ldA_r, ldA_n, ldA_s, s_getfield, pR_s, ob_s, gt_s, s_aload_n3, s_invokevirtual, rc_s, List.drop_succ_cons, List.drop_zero, List.take_succ_cons, List.take_zero, List.reverse_cons, List.reverse_nil, List.nil_append, List.cons_append, List.length_cons, List.length_nil, d1, Int.reduceToNat, Nat.reduceAdd, Nat.reduceLeDiff, true_and, and_true, Nat.le_refl, true_implies, forall_const, not_false_eq_true, false_implies, not_true_eq_false, reduceCtorEq, tl_s, tl_n, rf_s, true_or, or_true, p0, p1.c, p5.c]
      refine Thn_measure_c (by omega) ws (by omega) st p5 (fun h2 g2 c2' t2 e2 => ?_)
      have hp2 := hp1.th c2' ⟨g2, t2⟩
      obtain ⟨p0, p1, p2, p3, p4, p5, p6, p7⟩ := hp2.g
      have st := p1.st hi
      refine B_Pens_simplify_48 ?_
      simp only [wp_cons, wp_nil, List.getElem?_cons_zero, List.getElem?_cons_succ, List.set_cons_zero, List.set_cons_succ, s_aload_n0, ldA_r, ldA_n, ldA_s, s_getfield, pR_s, ob_s, gt_s, s_aload_n3, s_iload_n2, ldI_s, s_invokevirtual, rc_s, List.drop_succ_cons, List.drop_zero, List.take_succ_cons, List.take_zero, List.reverse_cons, List.reverse_nil, List.nil_append, List.cons_append, List.length_cons, List.length_nil, d1, Int.reduceToNat, Nat.reduceAdd, Nat.reduceLeDiff, true_and, and_true, Nat.le_refl, true_implies, forall_const, not_false_eq_true, false_implies, not_true_eq_false, reduceCtorEq, tl_s, tl_n, rf_s, true_or, or_true, p0, p1.c, t2.c]
      refine Thn_thin_c (by omega) ws (by omega) (by omega) st t2 p3 e2 c2 (fun h3 c3' b3 => ?_)
      have hp3 := hp2.sp c3' b3.x
      obtain ⟨p0, p1, p2, p3, p4, p5, p6, p7⟩ := hp3.g
      have st := p1.st hi
      refine B_Pens_simplify_61 ?_
      simp only [wp_cons, wp_nil, List.getElem?_cons_zero, List.getElem?_cons_succ, List.set_cons_zero, List.set_cons_succ, s_aload_n3, ldA_r, ldA_n, ldA_s, s_aload_n0, s_getfield, pR_s, ob_s, gt_s, s_invokevirtual, rc_s, List.drop_succ_cons, List.drop_zero, List.take_succ_cons, List.take_zero, List.reverse_cons, List.reverse_nil, List.nil_append, List.cons_append, List.length_cons, List.length_nil, d1, Int.reduceToNat, Nat.reduceAdd, Nat.reduceLeDiff, true_and, and_true, Nat.le_refl, true_implies, forall_const, not_false_eq_true, false_implies, not_true_eq_false, reduceCtorEq, tl_s, tl_n, rf_s, true_or, or_true, p0, p1.c, st.c]
      refine Stroke_copyFrom_c (by omega) st.x b3 (by omega) (fun h4 c4' b4 => ?_)
      have hp4 := hp3.st hi c4' b4
      refine B_Pens_simplify_69 ?_
      simp only [wp_cons, wp_nil, List.getElem?_cons_zero, List.getElem?_cons_succ, List.set_cons_zero, List.set_cons_succ, s_aload_n3, ldA_r, ldA_n, ldA_s, s_getfield, pR_s, ob_s, gt_s, s_ireturn, p1_s, rI_i, rI_z, rI_c, z_01, z_11, rt_Pens_simplify, true_and, and_true, Nat.le_refl, true_implies, forall_const, not_false_eq_true, false_implies, not_true_eq_false, reduceCtorEq, tl_s, tl_n, rf_s, List.cons_append, List.nil_append, true_or, or_true, b4.c]
      exact hQ h4 ((((c1'.wd (by omega) (by omega)).tr (c2'.wd (by omega) (by omega))).tr (c3'.wd (by omega) (by omega))).tr (c4'.wd (by omega) (by omega))) ⟨σ, hp4⟩
    · rw [if_pos c2] at hQ
      by_cases c3 : t < 0
      · refine B_Pens_simplify_8 ?_
        simp only [wp_cons, wp_nil, List.getElem?_cons_zero, List.getElem?_cons_succ, List.set_cons_zero, List.set_cons_succ, s_astore_n3, pA_r, pA_n, s1_0, s1_s, kx_i, kx_r, kx_s, kx_n, kx_l, kx_0, s_aload_n3, ldA_r, ldA_n, ldA_s, s_ifnonnull, true_and, and_true, Nat.le_refl, true_implies, forall_const, not_false_eq_true, false_implies, not_true_eq_false, reduceCtorEq, tl_s, tl_n, rf_s, List.cons_append, List.nil_append, true_or, or_true, p0]
        refine B_Pens_simplify_15 ?_
        simp only [wp_cons, wp_nil, List.getElem?_cons_zero, List.getElem?_cons_succ, List.set_cons_zero, List.set_cons_succ, s_iload_n2, ldI_s, s_ifCond_lt, p1_s, true_and, and_true, Nat.le_refl, true_implies, forall_const, not_false_eq_true, false_implies, not_true_eq_false, reduceCtorEq, tl_s, tl_n, rf_s, List.cons_append, List.nil_append, true_or, or_true, p0]
        refine b_lt (by omega) (by omega) (fun cc => ?_) (fun cc => absurd cc (by omega))
        refine B_Pens_simplify_26 ?_
        simp only [wp_cons, wp_nil, List.getElem?_cons_zero, List.getElem?_cons_succ, List.set_cons_zero, List.set_cons_succ, s_bipush, s_ireturn, p1_s, rI_i, rI_z, rI_c, z_01, z_11, rt_Pens_simplify, true_and, and_true, Nat.le_refl, true_implies, forall_const, not_false_eq_true, false_implies, not_true_eq_false, reduceCtorEq, tl_s, tl_n, rf_s, List.cons_append, List.nil_append, true_or, or_true, p0]
        exact hQ h chg.rf ⟨σ, hp⟩
      · refine B_Pens_simplify_8 ?_
        simp only [wp_cons, wp_nil, List.getElem?_cons_zero, List.getElem?_cons_succ, List.set_cons_zero, List.set_cons_succ, s_astore_n3, pA_r, pA_n, s1_0, s1_s, kx_i, kx_r, kx_s, kx_n, kx_l, kx_0, s_aload_n3, ldA_r, ldA_n, ldA_s, s_ifnonnull, true_and, and_true, Nat.le_refl, true_implies, forall_const, not_false_eq_true, false_implies, not_true_eq_false, reduceCtorEq, tl_s, tl_n, rf_s, List.cons_append, List.nil_append, true_or, or_true, p0]
        refine B_Pens_simplify_15 ?_
        simp only [wp_cons, wp_nil, List.getElem?_cons_zero, List.getElem?_cons_succ, List.set_cons_zero, List.set_cons_succ, s_iload_n2, ldI_s, s_ifCond_lt, p1_s, true_and, and_true, Nat.le_refl, true_implies, forall_const, not_false_eq_true, false_implies, not_true_eq_false, reduceCtorEq, tl_s, tl_n, rf_s, List.cons_append, List.nil_append, true_or, or_true, p0]
        refine b_lt (by omega) (by omega) (fun cc => absurd cc (by omega)) (fun cc => ?_)
        refine B_Pens_simplify_19 ?_
        simp only [wp_cons, wp_nil, List.getElem?_cons_zero, List.getElem?_cons_succ, List.set_cons_zero, List.set_cons_succ, s_iload_n2, ldI_s, s_sipush, s_if_icmp_le, p2_s, true_and, and_true, Nat.le_refl, true_implies, forall_const, not_false_eq_true, false_implies, not_true_eq_false, reduceCtorEq, tl_s, tl_n, rf_s, List.cons_append, List.nil_append, true_or, or_true, p0]
        refine b_le (by omega) (by omega) (fun cc => absurd cc (by omega)) (fun cc => ?_)
        refine B_Pens_simplify_26 ?_
        simp only [wp_cons, wp_nil, List.getElem?_cons_zero, List.getElem?_cons_succ, List.set_cons_zero, List.set_cons_succ, s_bipush, s_ireturn, p1_s, rI_i, rI_z, rI_c, z_01, z_11, rt_Pens_simplify, true_and, and_true, Nat.le_refl, true_implies, forall_const, not_false_eq_true, false_implies, not_true_eq_false, reduceCtorEq, tl_s, tl_n, rf_s, List.cons_append, List.nil_append, true_or, or_true, p0]
        exact hQ h chg.rf ⟨σ, hp⟩
  · rw [if_pos c1] at hQ
    refine Drawing_find_n p1 hs (by omega) ?_
    refine B_Pens_simplify_8 ?_
    simp only [wp_cons, wp_nil, List.getElem?_cons_zero, List.getElem?_cons_succ, List.set_cons_zero, List.set_cons_succ, s_astore_n3, pA_r, pA_n, s1_0, s1_s, kx_i, kx_r, kx_s, kx_n, kx_l, kx_0, s_aload_n3, ldA_r, ldA_n, ldA_s, s_ifnonnull, true_and, and_true, Nat.le_refl, true_implies, forall_const, not_false_eq_true, false_implies, not_true_eq_false, reduceCtorEq, tl_s, tl_n, rf_s, List.cons_append, List.nil_append, true_or, or_true, p0]
    refine B_Pens_simplify_13 ?_
    simp only [wp_cons, wp_nil, List.getElem?_cons_zero, List.getElem?_cons_succ, List.set_cons_zero, List.set_cons_succ, s_iconst, s_ireturn, p1_s, rI_i, rI_z, rI_c, z_01, z_11, rt_Pens_simplify, true_and, and_true, Nat.le_refl, true_implies, forall_const, not_false_eq_true, false_implies, not_true_eq_false, reduceCtorEq, tl_s, tl_n, rf_s, List.cons_append, List.nil_append, true_or, or_true, p0]
    exact hQ h chg.rf ⟨σ, hp⟩
theorem Pens_weld_c {d P : Nat} (hd : 8 ≤ d) {W : Wd} {r : Int} {h : g_H} {Q : g_Po} (w : wfW W) (hp : pens h P W) (hr : i32 r) (hQ : PQ P h Q (sp_weld W r)) : Call Pens_weld d 0 0 [.ref P, .int (I r)] h Q := by
  have d1 : 1 ≤ d := by omega
  obtain ⟨⟨Ss, pn⟩, Hs, T, l⟩ := W
  obtain ⟨σ, hp⟩ := hp
  obtain ⟨p0, p1, p2, p3, p4, p5, p6, p7⟩ := hp.g
  unfold sp_weld at hQ
  dsimp only at hQ
  refine Call.intro (by rfl) (Nat.le_of_ble_eq_true rfl) ?_
  refine G.eqL (L := [some (.ref _), some (.int _)]) rfl ?_
  by_cases c1 : 1 ≤ r ∧ r ≤ 999
  · rw [if_neg (fun q => q c1)] at hQ
    refine B_Pens_weld_0 ?_
    simp only [wp_cons, wp_nil, List.getElem?_cons_zero, List.getElem?_cons_succ, List.set_cons_zero, List.set_cons_succ, s_iload_n1, ldI_s, s_iconst, s_if_icmp_lt, p2_s, true_and, and_true, Nat.le_refl, true_implies, forall_const, not_false_eq_true, false_implies, not_true_eq_false, reduceCtorEq, tl_s, tl_n, rf_s, List.cons_append, List.nil_append, true_or, or_true, p0, p1.c, p4.c]
    refine b_lt (by omega) (by omega) (fun cc => absurd cc (by omega)) (fun cc => ?_)
    refine B_Pens_weld_5 ?_
    simp only [wp_cons, wp_nil, List.getElem?_cons_zero, List.getElem?_cons_succ, List.set_cons_zero, List.set_cons_succ, s_iload_n1, ldI_s, s_sipush, s_if_icmp_le, p2_s, true_and, and_true, Nat.le_refl, true_implies, forall_const, not_false_eq_true, false_implies, not_true_eq_false, reduceCtorEq, tl_s, tl_n, rf_s, List.cons_append, List.nil_append, true_or, or_true, p0, p1.c, p4.c]
    refine b_le (by omega) (by omega) (fun cc => ?_) (fun cc => absurd cc (by omega))
    refine B_Pens_weld_15 ?_
    simp only [wp_cons, wp_nil, List.getElem?_cons_zero, List.getElem?_cons_succ, List.set_cons_zero, List.set_cons_succ, s_aload_n0, ldA_r, ldA_n, ldA_s, s_getfield, pR_s, ob_s, gt_s, s_invokevirtual, rc_s, List.drop_succ_cons, List.drop_zero, List.take_succ_cons, List.take_zero, List.reverse_cons, List.reverse_nil, List.nil_append, List.cons_append, List.length_cons, List.length_nil, d1, Int.reduceToNat, Nat.reduceAdd, Nat.reduceLeDiff, true_and, and_true, Nat.le_refl, true_implies, forall_const, not_false_eq_true, false_implies, not_true_eq_false, reduceCtorEq, tl_s, tl_n, rf_s, true_or, or_true, p0, p1.c, p4.c]
    refine History_save_c (by omega) p4 ⟨σ, p1⟩ (by omega) (fun h1 c1' b1 => ?_)
    have hp1 := hp.sv c1' b1
    obtain ⟨p0, p1, p2, p3, p4, p5, p6, p7⟩ := hp1.g
    obtain ⟨x6, y6⟩ := p6.c
    refine B_Pens_weld_26 ?_
    simp only [wp_cons, wp_nil, List.getElem?_cons_zero, List.getElem?_cons_succ, List.set_cons_zero, List.set_cons_succ, s_aload_n0, ldA_r, ldA_n, ldA_s, s_getfield, pR_s, ob_s, gt_s, s_iload_n1, ldI_s, s_invokevirtual, rc_s, List.drop_succ_cons, List.drop_zero, List.take_succ_cons, List.take_zero, List.reverse_cons, List.reverse_nil, List.nil_append, List.cons_append, List.length_cons, List.length_nil, d1, Int.reduceToNat, Nat.reduceAdd, Nat.reduceLeDiff, true_and, and_true, Nat.le_refl, true_implies, forall_const, not_false_eq_true, false_implies, not_true_eq_false, reduceCtorEq, tl_s, tl_n, rf_s, true_or, or_true, p0, p1.c, y6]
    refine Wld_ends_c (by omega) c1 w.g.1 (by omega) ⟨σ, p1⟩ p6 (fun h2 h3 c2' c3' b3 x3 => ?_)
    have hp2 := hp1.we c2' (by
      obtain ⟨X1, Y1, B1, Z1, n1, x3⟩ := x3
      refine ⟨X1, Y1, B1, Z1, n1, ?_⟩
      exact ⟨(c3'.at (by omega)).symm.trans x3.1, (c3'.at (by omega)).symm.trans x3.2.1, (c3'.at (by omega)).symm.trans x3.2.2.1, (c3'.at (by omega)).symm.trans x3.2.2.2.1, (c3'.at (by omega)).symm.trans x3.2.2.2.2⟩)
    obtain ⟨σ3, b3⟩ := b3
    have hp3 := hp2.dr (s' := ((weldF r Ss).2, pn)) (c3'.wd (by omega) (by omega)) b3
    refine B_Pens_weld_38 ?_
    simp only [wp_cons, wp_nil, List.getElem?_cons_zero, List.getElem?_cons_succ, List.set_cons_zero, List.set_cons_succ, s_ireturn, p1_s, rI_i, rI_z, rI_c, z_01, z_11, rt_Pens_weld, true_and, and_true, Nat.le_refl, true_implies, forall_const, not_false_eq_true, false_implies, not_true_eq_false, reduceCtorEq, tl_s, tl_n, rf_s, List.cons_append, List.nil_append, true_or, or_true, p0, p1.c, y6]
    exact hQ h3 (((c1'.wd (by omega) (by omega)).tr (c2'.wd (by omega) (by omega))).tr (c3'.wd (by omega) (by omega))) ⟨_, hp3⟩
  · rw [if_pos c1] at hQ
    by_cases c3 : r < 1
    · refine B_Pens_weld_0 ?_
      simp only [wp_cons, wp_nil, List.getElem?_cons_zero, List.getElem?_cons_succ, List.set_cons_zero, List.set_cons_succ, s_iload_n1, ldI_s, s_iconst, s_if_icmp_lt, p2_s, true_and, and_true, Nat.le_refl, true_implies, forall_const, not_false_eq_true, false_implies, not_true_eq_false, reduceCtorEq, tl_s, tl_n, rf_s, List.cons_append, List.nil_append, true_or, or_true, p0]
      refine b_lt (by omega) (by omega) (fun cc => ?_) (fun cc => absurd cc (by omega))
      refine B_Pens_weld_12 ?_
      simp only [wp_cons, wp_nil, List.getElem?_cons_zero, List.getElem?_cons_succ, List.set_cons_zero, List.set_cons_succ, s_bipush, s_ireturn, p1_s, rI_i, rI_z, rI_c, z_01, z_11, rt_Pens_weld, true_and, and_true, Nat.le_refl, true_implies, forall_const, not_false_eq_true, false_implies, not_true_eq_false, reduceCtorEq, tl_s, tl_n, rf_s, List.cons_append, List.nil_append, true_or, or_true, p0]
      exact hQ h chg.rf ⟨σ, hp⟩
    · refine B_Pens_weld_0 ?_
      simp only [wp_cons, wp_nil, List.getElem?_cons_zero, List.getElem?_cons_succ, List.set_cons_zero, List.set_cons_succ, s_iload_n1, ldI_s, s_iconst, s_if_icmp_lt, p2_s, true_and, and_true, Nat.le_refl, true_implies, forall_const, not_false_eq_true, false_implies, not_true_eq_false, reduceCtorEq, tl_s, tl_n, rf_s, List.cons_append, List.nil_append, true_or, or_true, p0]
      refine b_lt (by omega) (by omega) (fun cc => absurd cc (by omega)) (fun cc => ?_)
      refine B_Pens_weld_5 ?_
      simp only [wp_cons, wp_nil, List.getElem?_cons_zero, List.getElem?_cons_succ, List.set_cons_zero, List.set_cons_succ, s_iload_n1, ldI_s, s_sipush, s_if_icmp_le, p2_s, true_and, and_true, Nat.le_refl, true_implies, forall_const, not_false_eq_true, false_implies, not_true_eq_false, reduceCtorEq, tl_s, tl_n, rf_s, List.cons_append, List.nil_append, true_or, or_true, p0]
      refine b_le (by omega) (by omega) (fun cc => absurd cc (by omega)) (fun cc => ?_)
      refine B_Pens_weld_12 ?_
      simp only [wp_cons, wp_nil, List.getElem?_cons_zero, List.getElem?_cons_succ, List.set_cons_zero, List.set_cons_succ, s_bipush, s_ireturn, p1_s, rI_i, rI_z, rI_c, z_01, z_11, rt_Pens_weld, true_and, and_true, Nat.le_refl, true_implies, forall_const, not_false_eq_true, false_implies, not_true_eq_false, reduceCtorEq, tl_s, tl_n, rf_s, List.cons_append, List.nil_append, true_or, or_true, p0]
      exact hQ h chg.rf ⟨σ, hp⟩
theorem Pens_join_c {d P : Nat} (hd : 8 ≤ d) {W : Wd} {h : g_H} {Q : g_Po} (w : wfW W) (hp : pens h P W) (hQ : PQ P h Q (sp_join W)) : Call Pens_joinAll d 0 0 [.ref P] h Q := by
  have d1 : 1 ≤ d := by omega
  obtain ⟨⟨Ss, pn⟩, Hs, T, l⟩ := W
  obtain ⟨σ, hp⟩ := hp
  obtain ⟨p0, p1, p2, p3, p4, p5, p6, p7⟩ := hp.g
  unfold sp_join at hQ
  dsimp only at hQ
  refine Call.intro (by rfl) (Nat.le_of_ble_eq_true rfl) ?_
  refine G.eqL (L := [some (.ref _)]) rfl ?_
  refine B_Pens_joinAll_0 ?_
  simp only [wp_cons, wp_nil, List.getElem?_cons_zero, List.getElem?_cons_succ, List.set_cons_zero, List.set_cons_succ, s_aload_n0, ldA_r, ldA_n, ldA_s, s_getfield, pR_s, ob_s, gt_s, s_invokevirtual, rc_s, List.drop_succ_cons, List.drop_zero, List.take_succ_cons, List.take_zero, List.reverse_cons, List.reverse_nil, List.nil_append, List.cons_append, List.length_cons, List.length_nil, d1, Int.reduceToNat, Nat.reduceAdd, Nat.reduceLeDiff, true_and, and_true, Nat.le_refl, true_implies, forall_const, not_false_eq_true, false_implies, not_true_eq_false, reduceCtorEq, tl_s, tl_n, rf_s, true_or, or_true, p0, p1.c, p4.c]
  refine History_save_c (by omega) p4 ⟨σ, p1⟩ (by omega) (fun h1 c1' b1 => ?_)
  have hp1 := hp.sv c1' b1
  obtain ⟨p0, p1, p2, p3, p4, p5, p6, p7⟩ := hp1.g
  refine B_Pens_joinAll_11 ?_
  simp only [wp_cons, wp_nil, List.getElem?_cons_zero, List.getElem?_cons_succ, List.set_cons_zero, List.set_cons_succ, s_aload_n0, ldA_r, ldA_n, ldA_s, s_getfield, pR_s, ob_s, gt_s, s_invokestatic, rc_s, List.drop_succ_cons, List.drop_zero, List.take_succ_cons, List.take_zero, List.reverse_cons, List.reverse_nil, List.nil_append, List.cons_append, List.length_cons, List.length_nil, Nat.reduceEqDiff, eq_self, reduceIte, p1_s, p2_s, l1_s, d1, Int.reduceToNat, Nat.reduceAdd, Nat.reduceLeDiff, true_and, and_true, Nat.le_refl, true_implies, forall_const, not_false_eq_true, false_implies, not_true_eq_false, reduceCtorEq, tl_s, tl_n, rf_s, true_or, or_true, p0, p1.c, p4.c]
  refine Jn_ends_c (by omega) w.g.1 ⟨σ, p1⟩ (fun h2 c2' b2 => ?_)
  obtain ⟨σ2, b2⟩ := b2
  have hp2 := hp1.dr (s' := (joinF Ss, pn)) (c2'.wd (by omega) (by omega)) b2
  obtain ⟨p0, p1, p2, p3, p4, p5, p6, p7⟩ := hp2.g
  refine B_Pens_joinAll_18 ?_
  simp only [wp_cons, wp_nil, List.getElem?_cons_zero, List.getElem?_cons_succ, List.set_cons_zero, List.set_cons_succ, s_aload_n0, ldA_r, ldA_n, ldA_s, s_getfield, pR_s, ob_s, gt_s, s_ireturn, p1_s, rI_i, rI_z, rI_c, z_01, z_11, rt_Pens_joinAll, true_and, and_true, Nat.le_refl, true_implies, forall_const, not_false_eq_true, false_implies, not_true_eq_false, reduceCtorEq, tl_s, tl_n, rf_s, List.cons_append, List.nil_append, true_or, or_true, p0, p1.c, p4.c]
  exact hQ h2 ((c1'.wd (by omega) (by omega)).tr (c2'.wd (by omega) (by omega))) ⟨_, hp2⟩
