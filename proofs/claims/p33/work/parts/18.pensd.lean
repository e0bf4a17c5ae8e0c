/-! ===== the class's methods: asking, forecasts, text, undo ===== -/
/-! blocks of Pens_strokes -/
theorem ml_Pens_strokes : (g_m Pens_strokes).2.2.1 = 1 := rfl
theorem rt_Pens_strokes : (g_m Pens_strokes).2.2.2.1 = (some .int) := rfl
theorem B_Pens_strokes_0 {d mc ms cs ss : Nat} {L : List (Option Value)} {st : List Value} {h : g_H} {Q : g_Po} (hw : g_wp Pens_strokes d mc ms Q 8 [(0, 1, 0, 0, 0, 0, .aload_n 0), (1, 3, 6, 0, 1137, 2, .getfield 10), (4, 3, 0, 2, 1059, 0, .getfield 76), (7, 1, 0, 0, 0, 0, .ireturn)] cs ss L st h) : G Pens_strokes d mc ms cs ss 0 L st h Q := G.run (by decide +kernel) hw
/-! blocks of Pens_of -/
theorem ml_Pens_of : (g_m Pens_of).2.2.1 = 4 := rfl
theorem rt_Pens_of : (g_m Pens_of).2.2.2.1 = (some .int) := rfl
theorem B_Pens_of_0 {d mc ms cs ss : Nat} {L : List (Option Value)} {st : List Value} {h : g_H} {Q : g_Po} (hw : g_wp Pens_of d mc ms Q 8 [(0, 1, 0, 0, 0, 0, .aload_n 0), (1, 3, 6, 0, 1137, 2, .getfield 10), (4, 1, 0, 0, 0, 0, .iload_n 1), (5, 3, 1, 0, 2056, 1, .invokevirtual 100)] cs ss L st h) : G Pens_of d mc ms cs ss 0 L st h Q := G.run (by decide +kernel) hw
theorem B_Pens_of_8 {d mc ms cs ss : Nat} {L : List (Option Value)} {st : List Value} {h : g_H} {Q : g_Po} (hw : g_wp Pens_of d mc ms Q 13 [(8, 1, 0, 0, 0, 0, .astore_n 3), (9, 1, 0, 0, 0, 0, .aload_n 3), (10, 3, 15, 0, 0, 0, .ifnonnull 5)] cs ss L st h) : G Pens_of d mc ms cs ss 8 L st h Q := G.run (by decide +kernel) hw
theorem B_Pens_of_13 {d mc ms cs ss : Nat} {L : List (Option Value)} {st : List Value} {h : g_H} {Q : g_Po} (hw : g_wp Pens_of d mc ms Q 15 [(13, 1, 0, 0, 0, (-1), .iconst (-1)), (14, 1, 0, 0, 0, 0, .ireturn)] cs ss L st h) : G Pens_of d mc ms cs ss 13 L st h Q := G.run (by decide +kernel) hw
theorem B_Pens_of_15 {d mc ms cs ss : Nat} {L : List (Option Value)} {st : List Value} {h : g_H} {Q : g_Po} (hw : g_wp Pens_of d mc ms Q 19 [(15, 1, 0, 0, 0, 0, .iload_n 2), (16, 3, 25, 0, 0, 0, .ifCond .lt 9)] cs ss L st h) : G Pens_of d mc ms cs ss 15 L st h Q := G.run (by decide +kernel) hw
theorem B_Pens_of_19 {d mc ms cs ss : Nat} {L : List (Option Value)} {st : List Value} {h : g_H} {Q : g_Po} (hw : g_wp Pens_of d mc ms Q 25 [(19, 1, 0, 0, 0, 0, .iload_n 2), (20, 2, 0, 0, 0, 9, .bipush 9), (22, 3, 28, 0, 0, 0, .if_icmp .le 6)] cs ss L st h) : G Pens_of d mc ms cs ss 19 L st h Q := G.run (by decide +kernel) hw
theorem B_Pens_of_25 {d mc ms cs ss : Nat} {L : List (Option Value)} {st : List Value} {h : g_H} {Q : g_Po} (hw : g_wp Pens_of d mc ms Q 28 [(25, 2, 0, 0, 0, (-2), .bipush (-2)), (27, 1, 0, 0, 0, 0, .ireturn)] cs ss L st h) : G Pens_of d mc ms cs ss 25 L st h Q := G.run (by decide +kernel) hw
theorem B_Pens_of_28 {d mc ms cs ss : Nat} {L : List (Option Value)} {st : List Value} {h : g_H} {Q : g_Po} (hw : g_wp Pens_of d mc ms Q 33 [(28, 1, 0, 0, 0, 0, .aload_n 3), (29, 1, 0, 0, 0, 0, .iload_n 2), (30, 3, 15, 0, 2057, 2, .invokestatic 171)] cs ss L st h) : G Pens_of d mc ms cs ss 28 L st h Q := G.run (by decide +kernel) hw
theorem B_Pens_of_33 {d mc ms cs ss : Nat} {L : List (Option Value)} {st : List Value} {h : g_H} {Q : g_Po} (hw : g_wp Pens_of d mc ms Q 34 [(33, 1, 0, 0, 0, 0, .ireturn)] cs ss L st h) : G Pens_of d mc ms cs ss 33 L st h Q := G.run (by decide +kernel) hw
/-! blocks of Pens_point -/
theorem ml_Pens_point : (g_m Pens_point).2.2.1 = 4 := rfl
theorem rt_Pens_point : (g_m Pens_point).2.2.2.1 = (some .int) := rfl
theorem B_Pens_point_0 {d mc ms cs ss : Nat} {L : List (Option Value)} {st : List Value} {h : g_H} {Q : g_Po} (hw : g_wp Pens_point d mc ms Q 8 [(0, 1, 0, 0, 0, 0, .aload_n 0), (1, 3, 6, 0, 1137, 2, .getfield 10), (4, 1, 0, 0, 0, 0, .iload_n 1), (5, 3, 1, 0, 2056, 1, .invokevirtual 100)] cs ss L st h) : G Pens_point d mc ms cs ss 0 L st h Q := G.run (by decide +kernel) hw
theorem B_Pens_point_8 {d mc ms cs ss : Nat} {L : List (Option Value)} {st : List Value} {h : g_H} {Q : g_Po} (hw : g_wp Pens_point d mc ms Q 13 [(8, 1, 0, 0, 0, 0, .astore_n 3), (9, 1, 0, 0, 0, 0, .aload_n 3), (10, 3, 25, 0, 0, 0, .ifnull 15)] cs ss L st h) : G Pens_point d mc ms cs ss 8 L st h Q := G.run (by decide +kernel) hw
theorem B_Pens_point_13 {d mc ms cs ss : Nat} {L : List (Option Value)} {st : List Value} {h : g_H} {Q : g_Po} (hw : g_wp Pens_point d mc ms Q 17 [(13, 1, 0, 0, 0, 0, .iload_n 2), (14, 3, 25, 0, 0, 0, .ifCond .lt 11)] cs ss L st h) : G Pens_point d mc ms cs ss 13 L st h Q := G.run (by decide +kernel) hw
theorem B_Pens_point_17 {d mc ms cs ss : Nat} {L : List (Option Value)} {st : List Value} {h : g_H} {Q : g_Po} (hw : g_wp Pens_point d mc ms Q 25 [(17, 1, 0, 0, 0, 0, .iload_n 2), (18, 1, 0, 0, 0, 0, .aload_n 3), (19, 3, 2, 1, 1035, 0, .getfield 73), (22, 3, 27, 0, 0, 0, .if_icmp .lt 5)] cs ss L st h) : G Pens_point d mc ms cs ss 17 L st h Q := G.run (by decide +kernel) hw
theorem B_Pens_point_25 {d mc ms cs ss : Nat} {L : List (Option Value)} {st : List Value} {h : g_H} {Q : g_Po} (hw : g_wp Pens_point d mc ms Q 27 [(25, 1, 0, 0, 0, (-1), .iconst (-1)), (26, 1, 0, 0, 0, 0, .ireturn)] cs ss L st h) : G Pens_point d mc ms cs ss 25 L st h Q := G.run (by decide +kernel) hw
theorem B_Pens_point_27 {d mc ms cs ss : Nat} {L : List (Option Value)} {st : List Value} {h : g_H} {Q : g_Po} (hw : g_wp Pens_point d mc ms Q 32 [(27, 1, 0, 0, 0, 0, .aload_n 3), (28, 1, 0, 0, 0, 0, .iload_n 2), (29, 3, 33, 2, 2119, 1, .invokevirtual 131)] cs ss L st h) : G Pens_point d mc ms cs ss 27 L st h Q := G.run (by decide +kernel) hw
theorem B_Pens_point_32 {d mc ms cs ss : Nat} {L : List (Option Value)} {st : List Value} {h : g_H} {Q : g_Po} (hw : g_wp Pens_point d mc ms Q 33 [(32, 1, 0, 0, 0, 0, .ireturn)] cs ss L st h) : G Pens_point d mc ms cs ss 32 L st h Q := G.run (by decide +kernel) hw
/-! blocks of Pens_crossings -/
theorem ml_Pens_crossings : (g_m Pens_crossings).2.2.1 = 5 := rfl
theorem rt_Pens_crossings : (g_m Pens_crossings).2.2.2.1 = (some .int) := rfl
theorem B_Pens_crossings_0 {d mc ms cs ss : Nat} {L : List (Option Value)} {st : List Value} {h : g_H} {Q : g_Po} (hw : g_wp Pens_crossings d mc ms Q 8 [(0, 1, 0, 0, 0, 0, .aload_n 0), (1, 3, 6, 0, 1137, 2, .getfield 10), (4, 1, 0, 0, 0, 0, .iload_n 1), (5, 3, 1, 0, 2056, 1, .invokevirtual 100)] cs ss L st h) : G Pens_crossings d mc ms cs ss 0 L st h Q := G.run (by decide +kernel) hw
theorem B_Pens_crossings_8 {d mc ms cs ss : Nat} {L : List (Option Value)} {st : List Value} {h : g_H} {Q : g_Po} (hw : g_wp Pens_crossings d mc ms Q 17 [(8, 1, 0, 0, 0, 0, .astore_n 3), (9, 1, 0, 0, 0, 0, .aload_n 0), (10, 3, 6, 0, 1137, 2, .getfield 10), (13, 1, 0, 0, 0, 0, .iload_n 2), (14, 3, 1, 0, 2056, 1, .invokevirtual 100)] cs ss L st h) : G Pens_crossings d mc ms cs ss 8 L st h Q := G.run (by decide +kernel) hw
theorem B_Pens_crossings_17 {d mc ms cs ss : Nat} {L : List (Option Value)} {st : List Value} {h : g_H} {Q : g_Po} (hw : g_wp Pens_crossings d mc ms Q 23 [(17, 2, 0, 0, 0, 0, .astore 4), (19, 1, 0, 0, 0, 0, .aload_n 3), (20, 3, 28, 0, 0, 0, .ifnull 8)] cs ss L st h) : G Pens_crossings d mc ms cs ss 17 L st h Q := G.run (by decide +kernel) hw
theorem B_Pens_crossings_23 {d mc ms cs ss : Nat} {L : List (Option Value)} {st : List Value} {h : g_H} {Q : g_Po} (hw : g_wp Pens_crossings d mc ms Q 28 [(23, 2, 0, 0, 0, 0, .aload 4), (25, 3, 30, 0, 0, 0, .ifnonnull 5)] cs ss L st h) : G Pens_crossings d mc ms cs ss 23 L st h Q := G.run (by decide +kernel) hw
theorem B_Pens_crossings_28 {d mc ms cs ss : Nat} {L : List (Option Value)} {st : List Value} {h : g_H} {Q : g_Po} (hw : g_wp Pens_crossings d mc ms Q 30 [(28, 1, 0, 0, 0, (-1), .iconst (-1)), (29, 1, 0, 0, 0, 0, .ireturn)] cs ss L st h) : G Pens_crossings d mc ms cs ss 28 L st h Q := G.run (by decide +kernel) hw
theorem B_Pens_crossings_30 {d mc ms cs ss : Nat} {L : List (Option Value)} {st : List Value} {h : g_H} {Q : g_Po} (hw : g_wp Pens_crossings d mc ms Q 35 [(30, 1, 0, 0, 0, 0, .iload_n 1), (31, 1, 0, 0, 0, 0, .iload_n 2), (32, 3, 38, 0, 0, 0, .if_icmp .ne 6)] cs ss L st h) : G Pens_crossings d mc ms cs ss 30 L st h Q := G.run (by decide +kernel) hw
theorem B_Pens_crossings_35 {d mc ms cs ss : Nat} {L : List (Option Value)} {st : List Value} {h : g_H} {Q : g_Po} (hw : g_wp Pens_crossings d mc ms Q 38 [(35, 2, 0, 0, 0, (-2), .bipush (-2)), (37, 1, 0, 0, 0, 0, .ireturn)] cs ss L st h) : G Pens_crossings d mc ms cs ss 35 L st h Q := G.run (by decide +kernel) hw
theorem B_Pens_crossings_38 {d mc ms cs ss : Nat} {L : List (Option Value)} {st : List Value} {h : g_H} {Q : g_Po} (hw : g_wp Pens_crossings d mc ms Q 44 [(38, 1, 0, 0, 0, 0, .aload_n 3), (39, 2, 0, 0, 0, 0, .aload 4), (41, 3, 20, 0, 2166, 2, .invokestatic 177)] cs ss L st h) : G Pens_crossings d mc ms cs ss 38 L st h Q := G.run (by decide +kernel) hw
theorem B_Pens_crossings_44 {d mc ms cs ss : Nat} {L : List (Option Value)} {st : List Value} {h : g_H} {Q : g_Po} (hw : g_wp Pens_crossings d mc ms Q 45 [(44, 1, 0, 0, 0, 0, .ireturn)] cs ss L st h) : G Pens_crossings d mc ms cs ss 44 L st h Q := G.run (by decide +kernel) hw
/-! blocks of Pens_nearest -/
theorem ml_Pens_nearest : (g_m Pens_nearest).2.2.1 = 10 := rfl
theorem rt_Pens_nearest : (g_m Pens_nearest).2.2.2.1 = (some .int) := rfl
theorem B_Pens_nearest_0 {d mc ms cs ss : Nat} {L : List (Option Value)} {st : List Value} {h : g_H} {Q : g_Po} (hw : g_wp Pens_nearest d mc ms Q 5 [(0, 1, 0, 0, 0, 0, .iload_n 1), (1, 1, 0, 0, 0, 0, .iload_n 2), (2, 3, 24, 0, 1172, 2, .invokestatic 64)] cs ss L st h) : G Pens_nearest d mc ms cs ss 0 L st h Q := G.run (by decide +kernel) hw
theorem B_Pens_nearest_5 {d mc ms cs ss : Nat} {L : List (Option Value)} {st : List Value} {h : g_H} {Q : g_Po} (hw : g_wp Pens_nearest d mc ms Q 8 [(5, 3, 11, 0, 0, 0, .ifCond .ne 6)] cs ss L st h) : G Pens_nearest d mc ms cs ss 5 L st h Q := G.run (by decide +kernel) hw
theorem B_Pens_nearest_8 {d mc ms cs ss : Nat} {L : List (Option Value)} {st : List Value} {h : g_H} {Q : g_Po} (hw : g_wp Pens_nearest d mc ms Q 11 [(8, 2, 0, 0, 0, (-2), .bipush (-2)), (10, 1, 0, 0, 0, 0, .ireturn)] cs ss L st h) : G Pens_nearest d mc ms cs ss 8 L st h Q := G.run (by decide +kernel) hw
theorem B_Pens_nearest_11 {d mc ms cs ss : Nat} {L : List (Option Value)} {st : List Value} {h : g_H} {Q : g_Po} (hw : g_wp Pens_nearest d mc ms Q 16 [(11, 1, 0, 0, 0, 0, .iload_n 1), (12, 1, 0, 0, 0, 0, .iload_n 2), (13, 3, 25, 0, 1207, 2, .invokestatic 81)] cs ss L st h) : G Pens_nearest d mc ms cs ss 11 L st h Q := G.run (by decide +kernel) hw
theorem B_Pens_nearest_16 {d mc ms cs ss : Nat} {L : List (Option Value)} {st : List Value} {h : g_H} {Q : g_Po} (hw : g_wp Pens_nearest d mc ms Q 27 [(16, 1, 0, 0, 0, 0, .istore_n 3), (17, 2, 0, 0, 0, (-6), .bipush (-6)), (19, 2, 0, 0, 0, 0, .istore 4), (21, 1, 0, 0, 0, 0, .iconst 0), (22, 2, 0, 0, 0, 0, .istore 5), (24, 1, 0, 0, 0, 0, .iconst 0), (25, 2, 0, 0, 0, 0, .istore 6)] cs ss L st h) : G Pens_nearest d mc ms cs ss 16 L st h Q := G.run (by decide +kernel) hw
theorem B_Pens_nearest_27 {d mc ms cs ss : Nat} {L : List (Option Value)} {st : List Value} {h : g_H} {Q : g_Po} (hw : g_wp Pens_nearest d mc ms Q 39 [(27, 2, 0, 0, 0, 0, .iload 6), (29, 1, 0, 0, 0, 0, .aload_n 0), (30, 3, 6, 0, 1137, 2, .getfield 10), (33, 3, 0, 2, 1059, 0, .getfield 76), (36, 3, 121, 0, 0, 0, .if_icmp .ge 85)] cs ss L st h) : G Pens_nearest d mc ms cs ss 27 L st h Q := G.run (by decide +kernel) hw
theorem B_Pens_nearest_39 {d mc ms cs ss : Nat} {L : List (Option Value)} {st : List Value} {h : g_H} {Q : g_Po} (hw : g_wp Pens_nearest d mc ms Q 48 [(39, 1, 0, 0, 0, 0, .aload_n 0), (40, 3, 6, 0, 1137, 2, .getfield 10), (43, 2, 0, 0, 0, 0, .iload 6), (45, 3, 1, 0, 2056, 1, .invokevirtual 100)] cs ss L st h) : G Pens_nearest d mc ms cs ss 39 L st h Q := G.run (by decide +kernel) hw
theorem B_Pens_nearest_48 {d mc ms cs ss : Nat} {L : List (Option Value)} {st : List Value} {h : g_H} {Q : g_Po} (hw : g_wp Pens_nearest d mc ms Q 53 [(48, 2, 0, 0, 0, 0, .astore 7), (50, 1, 0, 0, 0, 0, .iconst 0), (51, 2, 0, 0, 0, 0, .istore 8)] cs ss L st h) : G Pens_nearest d mc ms cs ss 48 L st h Q := G.run (by decide +kernel) hw
theorem B_Pens_nearest_53 {d mc ms cs ss : Nat} {L : List (Option Value)} {st : List Value} {h : g_H} {Q : g_Po} (hw : g_wp Pens_nearest d mc ms Q 58 [(53, 2, 0, 0, 0, 0, .aload 7), (55, 3, 115, 0, 0, 0, .ifnull 60)] cs ss L st h) : G Pens_nearest d mc ms cs ss 53 L st h Q := G.run (by decide +kernel) hw
theorem B_Pens_nearest_58 {d mc ms cs ss : Nat} {L : List (Option Value)} {st : List Value} {h : g_H} {Q : g_Po} (hw : g_wp Pens_nearest d mc ms Q 68 [(58, 2, 0, 0, 0, 0, .iload 8), (60, 2, 0, 0, 0, 0, .aload 7), (62, 3, 2, 1, 1035, 0, .getfield 73), (65, 3, 115, 0, 0, 0, .if_icmp .ge 50)] cs ss L st h) : G Pens_nearest d mc ms cs ss 58 L st h Q := G.run (by decide +kernel) hw
theorem B_Pens_nearest_68 {d mc ms cs ss : Nat} {L : List (Option Value)} {st : List Value} {h : g_H} {Q : g_Po} (hw : g_wp Pens_nearest d mc ms Q 76 [(68, 1, 0, 0, 0, 0, .iload_n 3), (69, 2, 0, 0, 0, 0, .aload 7), (71, 2, 0, 0, 0, 0, .iload 8), (73, 3, 33, 2, 2119, 1, .invokevirtual 131)] cs ss L st h) : G Pens_nearest d mc ms cs ss 68 L st h Q := G.run (by decide +kernel) hw
theorem B_Pens_nearest_76 {d mc ms cs ss : Nat} {L : List (Option Value)} {st : List Value} {h : g_H} {Q : g_Po} (hw : g_wp Pens_nearest d mc ms Q 79 [(76, 3, 28, 0, 2173, 2, .invokestatic 181)] cs ss L st h) : G Pens_nearest d mc ms cs ss 76 L st h Q := G.run (by decide +kernel) hw
theorem B_Pens_nearest_79 {d mc ms cs ss : Nat} {L : List (Option Value)} {st : List Value} {h : g_H} {Q : g_Po} (hw : g_wp Pens_nearest d mc ms Q 88 [(79, 2, 0, 0, 0, 0, .istore 9), (81, 2, 0, 0, 0, 0, .iload 4), (83, 2, 0, 0, 0, (-6), .bipush (-6)), (85, 3, 95, 0, 0, 0, .if_icmp .eq 10)] cs ss L st h) : G Pens_nearest d mc ms cs ss 79 L st h Q := G.run (by decide +kernel) hw
theorem B_Pens_nearest_88 {d mc ms cs ss : Nat} {L : List (Option Value)} {st : List Value} {h : g_H} {Q : g_Po} (hw : g_wp Pens_nearest d mc ms Q 95 [(88, 2, 0, 0, 0, 0, .iload 9), (90, 2, 0, 0, 0, 0, .iload 5), (92, 3, 109, 0, 0, 0, .if_icmp .ge 17)] cs ss L st h) : G Pens_nearest d mc ms cs ss 88 L st h Q := G.run (by decide +kernel) hw
theorem B_Pens_nearest_95 {d mc ms cs ss : Nat} {L : List (Option Value)} {st : List Value} {h : g_H} {Q : g_Po} (hw : g_wp Pens_nearest d mc ms Q 109 [(95, 2, 0, 0, 0, 0, .iload 9), (97, 2, 0, 0, 0, 0, .istore 5), (99, 2, 0, 0, 0, 100, .bipush 100), (101, 2, 0, 0, 0, 0, .iload 6), (103, 1, 0, 0, 0, 0, .imul), (104, 2, 0, 0, 0, 0, .iload 8), (106, 1, 0, 0, 0, 0, .iadd), (107, 2, 0, 0, 0, 0, .istore 4)] cs ss L st h) : G Pens_nearest d mc ms cs ss 95 L st h Q := G.run (by decide +kernel) hw
theorem B_Pens_nearest_109 {d mc ms cs ss : Nat} {L : List (Option Value)} {st : List Value} {h : g_H} {Q : g_Po} (hw : g_wp Pens_nearest d mc ms Q 115 [(109, 3, 0, 0, 0, 1, .iinc 8 1), (112, 3, 53, 0, 0, 0, .goto (-59))] cs ss L st h) : G Pens_nearest d mc ms cs ss 109 L st h Q := G.run (by decide +kernel) hw
theorem B_Pens_nearest_115 {d mc ms cs ss : Nat} {L : List (Option Value)} {st : List Value} {h : g_H} {Q : g_Po} (hw : g_wp Pens_nearest d mc ms Q 121 [(115, 3, 0, 0, 0, 1, .iinc 6 1), (118, 3, 27, 0, 0, 0, .goto (-91))] cs ss L st h) : G Pens_nearest d mc ms cs ss 115 L st h Q := G.run (by decide +kernel) hw
theorem B_Pens_nearest_121 {d mc ms cs ss : Nat} {L : List (Option Value)} {st : List Value} {h : g_H} {Q : g_Po} (hw : g_wp Pens_nearest d mc ms Q 124 [(121, 2, 0, 0, 0, 0, .iload 4), (123, 1, 0, 0, 0, 0, .ireturn)] cs ss L st h) : G Pens_nearest d mc ms cs ss 121 L st h Q := G.run (by decide +kernel) hw
/-! blocks of Pens_isInside -/
theorem ml_Pens_isInside : (g_m Pens_isInside).2.2.1 = 5 := rfl
theorem rt_Pens_isInside : (g_m Pens_isInside).2.2.2.1 = (some .int) := rfl
theorem B_Pens_isInside_0 {d mc ms cs ss : Nat} {L : List (Option Value)} {st : List Value} {h : g_H} {Q : g_Po} (hw : g_wp Pens_isInside d mc ms Q 8 [(0, 1, 0, 0, 0, 0, .aload_n 0), (1, 3, 6, 0, 1137, 2, .getfield 10), (4, 1, 0, 0, 0, 0, .iload_n 1), (5, 3, 1, 0, 2056, 1, .invokevirtual 100)] cs ss L st h) : G Pens_isInside d mc ms cs ss 0 L st h Q := G.run (by decide +kernel) hw
theorem B_Pens_isInside_8 {d mc ms cs ss : Nat} {L : List (Option Value)} {st : List Value} {h : g_H} {Q : g_Po} (hw : g_wp Pens_isInside d mc ms Q 15 [(8, 2, 0, 0, 0, 0, .astore 4), (10, 2, 0, 0, 0, 0, .aload 4), (12, 3, 17, 0, 0, 0, .ifnonnull 5)] cs ss L st h) : G Pens_isInside d mc ms cs ss 8 L st h Q := G.run (by decide +kernel) hw
theorem B_Pens_isInside_15 {d mc ms cs ss : Nat} {L : List (Option Value)} {st : List Value} {h : g_H} {Q : g_Po} (hw : g_wp Pens_isInside d mc ms Q 17 [(15, 1, 0, 0, 0, (-1), .iconst (-1)), (16, 1, 0, 0, 0, 0, .ireturn)] cs ss L st h) : G Pens_isInside d mc ms cs ss 15 L st h Q := G.run (by decide +kernel) hw
theorem B_Pens_isInside_17 {d mc ms cs ss : Nat} {L : List (Option Value)} {st : List Value} {h : g_H} {Q : g_Po} (hw : g_wp Pens_isInside d mc ms Q 22 [(17, 1, 0, 0, 0, 0, .iload_n 2), (18, 1, 0, 0, 0, 0, .iload_n 3), (19, 3, 24, 0, 1172, 2, .invokestatic 64)] cs ss L st h) : G Pens_isInside d mc ms cs ss 17 L st h Q := G.run (by decide +kernel) hw
theorem B_Pens_isInside_22 {d mc ms cs ss : Nat} {L : List (Option Value)} {st : List Value} {h : g_H} {Q : g_Po} (hw : g_wp Pens_isInside d mc ms Q 25 [(22, 3, 28, 0, 0, 0, .ifCond .ne 6)] cs ss L st h) : G Pens_isInside d mc ms cs ss 22 L st h Q := G.run (by decide +kernel) hw
theorem B_Pens_isInside_25 {d mc ms cs ss : Nat} {L : List (Option Value)} {st : List Value} {h : g_H} {Q : g_Po} (hw : g_wp Pens_isInside d mc ms Q 28 [(25, 2, 0, 0, 0, (-2), .bipush (-2)), (27, 1, 0, 0, 0, 0, .ireturn)] cs ss L st h) : G Pens_isInside d mc ms cs ss 25 L st h Q := G.run (by decide +kernel) hw
theorem B_Pens_isInside_28 {d mc ms cs ss : Nat} {L : List (Option Value)} {st : List Value} {h : g_H} {Q : g_Po} (hw : g_wp Pens_isInside d mc ms Q 36 [(28, 2, 0, 0, 0, 0, .aload 4), (30, 3, 2, 2, 1046, 1, .getfield 151), (33, 3, 39, 0, 0, 0, .ifCond .ne 6)] cs ss L st h) : G Pens_isInside d mc ms cs ss 28 L st h Q := G.run (by decide +kernel) hw
theorem B_Pens_isInside_36 {d mc ms cs ss : Nat} {L : List (Option Value)} {st : List Value} {h : g_H} {Q : g_Po} (hw : g_wp Pens_isInside d mc ms Q 39 [(36, 2, 0, 0, 0, (-3), .bipush (-3)), (38, 1, 0, 0, 0, 0, .ireturn)] cs ss L st h) : G Pens_isInside d mc ms cs ss 36 L st h Q := G.run (by decide +kernel) hw
theorem B_Pens_isInside_39 {d mc ms cs ss : Nat} {L : List (Option Value)} {st : List Value} {h : g_H} {Q : g_Po} (hw : g_wp Pens_isInside d mc ms Q 46 [(39, 2, 0, 0, 0, 0, .aload 4), (41, 1, 0, 0, 0, 0, .iload_n 2), (42, 1, 0, 0, 0, 0, .iload_n 3), (43, 3, 22, 0, 2154, 3, .invokestatic 184)] cs ss L st h) : G Pens_isInside d mc ms cs ss 39 L st h Q := G.run (by decide +kernel) hw
theorem B_Pens_isInside_46 {d mc ms cs ss : Nat} {L : List (Option Value)} {st : List Value} {h : g_H} {Q : g_Po} (hw : g_wp Pens_isInside d mc ms Q 49 [(46, 3, 53, 0, 0, 0, .ifCond .eq 7)] cs ss L st h) : G Pens_isInside d mc ms cs ss 46 L st h Q := G.run (by decide +kernel) hw
theorem B_Pens_isInside_49 {d mc ms cs ss : Nat} {L : List (Option Value)} {st : List Value} {h : g_H} {Q : g_Po} (hw : g_wp Pens_isInside d mc ms Q 53 [(49, 1, 0, 0, 0, 1, .iconst 1), (50, 3, 54, 0, 0, 0, .goto 4)] cs ss L st h) : G Pens_isInside d mc ms cs ss 49 L st h Q := G.run (by decide +kernel) hw
theorem B_Pens_isInside_53 {d mc ms cs ss : Nat} {L : List (Option Value)} {st : List Value} {h : g_H} {Q : g_Po} (hw : g_wp Pens_isInside d mc ms Q 54 [(53, 1, 0, 0, 0, 0, .iconst 0)] cs ss L st h) : G Pens_isInside d mc ms cs ss 53 L st h Q := G.run (by decide +kernel) hw
theorem B_Pens_isInside_54 {d mc ms cs ss : Nat} {L : List (Option Value)} {st : List Value} {h : g_H} {Q : g_Po} (hw : g_wp Pens_isInside d mc ms Q 55 [(54, 1, 0, 0, 0, 0, .ireturn)] cs ss L st h) : G Pens_isInside d mc ms cs ss 54 L st h Q := G.run (by decide +kernel) hw
/-! blocks of Pens_ifSimplified -/
theorem ml_Pens_ifSimplified : (g_m Pens_ifSimplified).2.2.1 = 4 := rfl
theorem rt_Pens_ifSimplified : (g_m Pens_ifSimplified).2.2.2.1 = (some .int) := rfl
theorem B_Pens_ifSimplified_0 {d mc ms cs ss : Nat} {L : List (Option Value)} {st : List Value} {h : g_H} {Q : g_Po} (hw : g_wp Pens_ifSimplified d mc ms Q 8 [(0, 1, 0, 0, 0, 0, .aload_n 0), (1, 3, 6, 0, 1137, 2, .getfield 10), (4, 1, 0, 0, 0, 0, .iload_n 1), (5, 3, 1, 0, 2056, 1, .invokevirtual 100)] cs ss L st h) : G Pens_ifSimplified d mc ms cs ss 0 L st h Q := G.run (by decide +kernel) hw
theorem B_Pens_ifSimplified_8 {d mc ms cs ss : Nat} {L : List (Option Value)} {st : List Value} {h : g_H} {Q : g_Po} (hw : g_wp Pens_ifSimplified d mc ms Q 13 [(8, 1, 0, 0, 0, 0, .astore_n 3), (9, 1, 0, 0, 0, 0, .aload_n 3), (10, 3, 15, 0, 0, 0, .ifnonnull 5)] cs ss L st h) : G Pens_ifSimplified d mc ms cs ss 8 L st h Q := G.run (by decide +kernel) hw
theorem B_Pens_ifSimplified_13 {d mc ms cs ss : Nat} {L : List (Option Value)} {st : List Value} {h : g_H} {Q : g_Po} (hw : g_wp Pens_ifSimplified d mc ms Q 15 [(13, 1, 0, 0, 0, (-1), .iconst (-1)), (14, 1, 0, 0, 0, 0, .ireturn)] cs ss L st h) : G Pens_ifSimplified d mc ms cs ss 13 L st h Q := G.run (by decide +kernel) hw
theorem B_Pens_ifSimplified_15 {d mc ms cs ss : Nat} {L : List (Option Value)} {st : List Value} {h : g_H} {Q : g_Po} (hw : g_wp Pens_ifSimplified d mc ms Q 19 [(15, 1, 0, 0, 0, 0, .iload_n 2), (16, 3, 26, 0, 0, 0, .ifCond .lt 10)] cs ss L st h) : G Pens_ifSimplified d mc ms cs ss 15 L st h Q := G.run (by decide +kernel) hw
theorem B_Pens_ifSimplified_19 {d mc ms cs ss : Nat} {L : List (Option Value)} {st : List Value} {h : g_H} {Q : g_Po} (hw : g_wp Pens_ifSimplified d mc ms Q 26 [(19, 1, 0, 0, 0, 0, .iload_n 2), (20, 3, 0, 0, 0, 200, .sipush 200), (23, 3, 29, 0, 0, 0, .if_icmp .le 6)] cs ss L st h) : G Pens_ifSimplified d mc ms cs ss 19 L st h Q := G.run (by decide +kernel) hw
theorem B_Pens_ifSimplified_26 {d mc ms cs ss : Nat} {L : List (Option Value)} {st : List Value} {h : g_H} {Q : g_Po} (hw : g_wp Pens_ifSimplified d mc ms Q 29 [(26, 2, 0, 0, 0, (-2), .bipush (-2)), (28, 1, 0, 0, 0, 0, .ireturn)] cs ss L st h) : G Pens_ifSimplified d mc ms cs ss 26 L st h Q := G.run (by decide +kernel) hw
theorem B_Pens_ifSimplified_29 {d mc ms cs ss : Nat} {L : List (Option Value)} {st : List Value} {h : g_H} {Q : g_Po} (hw : g_wp Pens_ifSimplified d mc ms Q 37 [(29, 1, 0, 0, 0, 0, .aload_n 0), (30, 3, 6, 4, 1141, 2, .getfield 36), (33, 1, 0, 0, 0, 0, .aload_n 3), (34, 3, 47, 4, 2188, 1, .invokevirtual 104)] cs ss L st h) : G Pens_ifSimplified d mc ms cs ss 29 L st h Q := G.run (by decide +kernel) hw
theorem B_Pens_ifSimplified_37 {d mc ms cs ss : Nat} {L : List (Option Value)} {st : List Value} {h : g_H} {Q : g_Po} (hw : g_wp Pens_ifSimplified d mc ms Q 50 [(37, 1, 0, 0, 0, 0, .aload_n 0), (38, 3, 6, 4, 1141, 2, .getfield 36), (41, 1, 0, 0, 0, 0, .aload_n 3), (42, 1, 0, 0, 0, 0, .iload_n 2), (43, 1, 0, 0, 0, 0, .aload_n 0), (44, 3, 6, 2, 1139, 2, .getfield 22), (47, 3, 48, 4, 2228, 3, .invokevirtual 107)] cs ss L st h) : G Pens_ifSimplified d mc ms cs ss 37 L st h Q := G.run (by decide +kernel) hw
theorem B_Pens_ifSimplified_50 {d mc ms cs ss : Nat} {L : List (Option Value)} {st : List Value} {h : g_H} {Q : g_Po} (hw : g_wp Pens_ifSimplified d mc ms Q 58 [(50, 1, 0, 0, 0, 0, .aload_n 0), (51, 3, 6, 2, 1139, 2, .getfield 22), (54, 3, 2, 1, 1035, 0, .getfield 73), (57, 1, 0, 0, 0, 0, .ireturn)] cs ss L st h) : G Pens_ifSimplified d mc ms cs ss 50 L st h Q := G.run (by decide +kernel) hw
/-! blocks of Pens_toleranceFor -/
theorem ml_Pens_toleranceFor : (g_m Pens_toleranceFor).2.2.1 = 5 := rfl
theorem rt_Pens_toleranceFor : (g_m Pens_toleranceFor).2.2.2.1 = (some .int) := rfl
theorem B_Pens_toleranceFor_0 {d mc ms cs ss : Nat} {L : List (Option Value)} {st : List Value} {h : g_H} {Q : g_Po} (hw : g_wp Pens_toleranceFor d mc ms Q 8 [(0, 1, 0, 0, 0, 0, .aload_n 0), (1, 3, 6, 0, 1137, 2, .getfield 10), (4, 1, 0, 0, 0, 0, .iload_n 1), (5, 3, 1, 0, 2056, 1, .invokevirtual 100)] cs ss L st h) : G Pens_toleranceFor d mc ms cs ss 0 L st h Q := G.run (by decide +kernel) hw
theorem B_Pens_toleranceFor_8 {d mc ms cs ss : Nat} {L : List (Option Value)} {st : List Value} {h : g_H} {Q : g_Po} (hw : g_wp Pens_toleranceFor d mc ms Q 13 [(8, 1, 0, 0, 0, 0, .astore_n 3), (9, 1, 0, 0, 0, 0, .aload_n 3), (10, 3, 15, 0, 0, 0, .ifnonnull 5)] cs ss L st h) : G Pens_toleranceFor d mc ms cs ss 8 L st h Q := G.run (by decide +kernel) hw
theorem B_Pens_toleranceFor_13 {d mc ms cs ss : Nat} {L : List (Option Value)} {st : List Value} {h : g_H} {Q : g_Po} (hw : g_wp Pens_toleranceFor d mc ms Q 15 [(13, 1, 0, 0, 0, (-1), .iconst (-1)), (14, 1, 0, 0, 0, 0, .ireturn)] cs ss L st h) : G Pens_toleranceFor d mc ms cs ss 13 L st h Q := G.run (by decide +kernel) hw
theorem B_Pens_toleranceFor_15 {d mc ms cs ss : Nat} {L : List (Option Value)} {st : List Value} {h : g_H} {Q : g_Po} (hw : g_wp Pens_toleranceFor d mc ms Q 20 [(15, 1, 0, 0, 0, 0, .iload_n 2), (16, 1, 0, 0, 0, 2, .iconst 2), (17, 3, 26, 0, 0, 0, .if_icmp .lt 9)] cs ss L st h) : G Pens_toleranceFor d mc ms cs ss 15 L st h Q := G.run (by decide +kernel) hw
theorem B_Pens_toleranceFor_20 {d mc ms cs ss : Nat} {L : List (Option Value)} {st : List Value} {h : g_H} {Q : g_Po} (hw : g_wp Pens_toleranceFor d mc ms Q 26 [(20, 1, 0, 0, 0, 0, .iload_n 2), (21, 2, 0, 0, 0, 30, .bipush 30), (23, 3, 29, 0, 0, 0, .if_icmp .le 6)] cs ss L st h) : G Pens_toleranceFor d mc ms cs ss 20 L st h Q := G.run (by decide +kernel) hw
theorem B_Pens_toleranceFor_26 {d mc ms cs ss : Nat} {L : List (Option Value)} {st : List Value} {h : g_H} {Q : g_Po} (hw : g_wp Pens_toleranceFor d mc ms Q 29 [(26, 2, 0, 0, 0, (-2), .bipush (-2)), (28, 1, 0, 0, 0, 0, .ireturn)] cs ss L st h) : G Pens_toleranceFor d mc ms cs ss 26 L st h Q := G.run (by decide +kernel) hw
theorem B_Pens_toleranceFor_29 {d mc ms cs ss : Nat} {L : List (Option Value)} {st : List Value} {h : g_H} {Q : g_Po} (hw : g_wp Pens_toleranceFor d mc ms Q 37 [(29, 1, 0, 0, 0, 0, .aload_n 0), (30, 3, 6, 4, 1141, 2, .getfield 36), (33, 1, 0, 0, 0, 0, .aload_n 3), (34, 3, 47, 4, 2188, 1, .invokevirtual 104)] cs ss L st h) : G Pens_toleranceFor d mc ms cs ss 29 L st h Q := G.run (by decide +kernel) hw
theorem B_Pens_toleranceFor_37 {d mc ms cs ss : Nat} {L : List (Option Value)} {st : List Value} {h : g_H} {Q : g_Po} (hw : g_wp Pens_toleranceFor d mc ms Q 40 [(37, 1, 0, 0, 0, 0, .iconst 0), (38, 2, 0, 0, 0, 0, .istore 4)] cs ss L st h) : G Pens_toleranceFor d mc ms cs ss 37 L st h Q := G.run (by decide +kernel) hw
theorem B_Pens_toleranceFor_40 {d mc ms cs ss : Nat} {L : List (Option Value)} {st : List Value} {h : g_H} {Q : g_Po} (hw : g_wp Pens_toleranceFor d mc ms Q 48 [(40, 2, 0, 0, 0, 0, .iload 4), (42, 3, 0, 0, 0, 200, .sipush 200), (45, 3, 82, 0, 0, 0, .if_icmp .gt 37)] cs ss L st h) : G Pens_toleranceFor d mc ms cs ss 40 L st h Q := G.run (by decide +kernel) hw
theorem B_Pens_toleranceFor_48 {d mc ms cs ss : Nat} {L : List (Option Value)} {st : List Value} {h : g_H} {Q : g_Po} (hw : g_wp Pens_toleranceFor d mc ms Q 62 [(48, 1, 0, 0, 0, 0, .aload_n 0), (49, 3, 6, 4, 1141, 2, .getfield 36), (52, 1, 0, 0, 0, 0, .aload_n 3), (53, 2, 0, 0, 0, 0, .iload 4), (55, 1, 0, 0, 0, 0, .aload_n 0), (56, 3, 6, 2, 1139, 2, .getfield 22), (59, 3, 48, 4, 2228, 3, .invokevirtual 107)] cs ss L st h) : G Pens_toleranceFor d mc ms cs ss 48 L st h Q := G.run (by decide +kernel) hw
theorem B_Pens_toleranceFor_62 {d mc ms cs ss : Nat} {L : List (Option Value)} {st : List Value} {h : g_H} {Q : g_Po} (hw : g_wp Pens_toleranceFor d mc ms Q 73 [(62, 1, 0, 0, 0, 0, .aload_n 0), (63, 3, 6, 2, 1139, 2, .getfield 22), (66, 3, 2, 1, 1035, 0, .getfield 73), (69, 1, 0, 0, 0, 0, .iload_n 2), (70, 3, 76, 0, 0, 0, .if_icmp .gt 6)] cs ss L st h) : G Pens_toleranceFor d mc ms cs ss 62 L st h Q := G.run (by decide +kernel) hw
theorem B_Pens_toleranceFor_73 {d mc ms cs ss : Nat} {L : List (Option Value)} {st : List Value} {h : g_H} {Q : g_Po} (hw : g_wp Pens_toleranceFor d mc ms Q 76 [(73, 2, 0, 0, 0, 0, .iload 4), (75, 1, 0, 0, 0, 0, .ireturn)] cs ss L st h) : G Pens_toleranceFor d mc ms cs ss 73 L st h Q := G.run (by decide +kernel) hw
theorem B_Pens_toleranceFor_76 {d mc ms cs ss : Nat} {L : List (Option Value)} {st : List Value} {h : g_H} {Q : g_Po} (hw : g_wp Pens_toleranceFor d mc ms Q 82 [(76, 3, 0, 0, 0, 1, .iinc 4 1), (79, 3, 40, 0, 0, 0, .goto (-39))] cs ss L st h) : G Pens_toleranceFor d mc ms cs ss 76 L st h Q := G.run (by decide +kernel) hw
theorem B_Pens_toleranceFor_82 {d mc ms cs ss : Nat} {L : List (Option Value)} {st : List Value} {h : g_H} {Q : g_Po} (hw : g_wp Pens_toleranceFor d mc ms Q 85 [(82, 2, 0, 0, 0, (-6), .bipush (-6)), (84, 1, 0, 0, 0, 0, .ireturn)] cs ss L st h) : G Pens_toleranceFor d mc ms cs ss 82 L st h Q := G.run (by decide +kernel) hw
theorem Pens_strokes_c {d P : Nat} {W : Wd} {h : g_H} {Q : g_Po} (hp : pens h P W) (hQ : Q (some (.int (I (sp_strokes W).1))) h) : Call Pens_strokes d 0 0 [.ref P] h Q := by
  obtain ⟨⟨Ss, pn⟩, Hs, T, l⟩ := W
  obtain ⟨σ, hp⟩ := hp
  obtain ⟨p0, p1, p2, p3, p4, p5, p6, p7⟩ := hp.g
  refine Call.intro (by rfl) (Nat.le_of_ble_eq_true rfl) ?_
  refine G.eqL (L := [some (.ref _)]) rfl ?_
  refine B_Pens_strokes_0 ?_
  simp only [wp_cons, wp_nil, List.getElem?_cons_zero, List.getElem?_cons_succ, List.set_cons_zero, List.set_cons_succ, s_aload_n0, ldA_r, ldA_n, ldA_s, s_getfield, pR_s, ob_s, gt_s, s_ireturn, p1_s, rI_i, rI_z, rI_c, z_01, z_11, rt_Pens_strokes, true_and, and_true, Nat.le_refl, true_implies, forall_const, not_false_eq_true, false_implies, not_true_eq_false, reduceCtorEq, tl_s, tl_n, rf_s, List.cons_append, List.nil_append, true_or, or_true, p0, p1.c]
  exact hQ
theorem Pens_of_c {d P : Nat} (hd : 8 ≤ d) {W : Wd} {s v : Int} {h : g_H} {Q : g_Po} (w : wfW W) (hp : pens h P W) (hs : i32 s) (hv : i32 v) (hQ : Q (some (.int (I (sp_of W s v).1))) h) : Call Pens_of d 0 0 [.ref P, .int (I s), .int (I v)] h Q := by
  have d1 : 1 ≤ d := by omega
  obtain ⟨⟨Ss, pn⟩, Hs, T, l⟩ := W
  obtain ⟨σ, hp⟩ := hp
  obtain ⟨p0, p1, p2, p3, p4, p5, p6, p7⟩ := hp.g
  have hlen : Ss.length ≤ 10 := p1.len
  unfold sp_of at hQ
  dsimp only at hQ
  refine Call.intro (by rfl) (Nat.le_of_ble_eq_true rfl) ?_
  refine G.eqL (L := [some (.ref _), some (.int _), some (.int _), none]) rfl ?_
  refine B_Pens_of_0 ?_
  simp only [wp_cons, wp_nil, List.getElem?_cons_zero, List.getElem?_cons_succ, List.set_cons_zero, List.set_cons_succ, s_aload_n0, ldA_r, ldA_n, ldA_s, s_getfield, pR_s, ob_s, gt_s, s_iload_n1, ldI_s, s_invokevirtual, rc_s, List.drop_succ_cons, List.drop_zero, List.take_succ_cons, List.take_zero, List.reverse_cons, List.reverse_nil, List.nil_append, List.cons_append, List.length_cons, List.length_nil, d1, Int.reduceToNat, Nat.reduceAdd, Nat.reduceLeDiff, true_and, and_true, Nat.le_refl, true_implies, forall_const, not_false_eq_true, false_implies, not_true_eq_false, reduceCtorEq, tl_s, tl_n, rf_s, true_or, or_true, p0, p1.c]
  by_cases c1 : inS Ss s
  · rw [if_neg (fun q => q c1)] at hQ
    obtain ⟨i, rfl, hi⟩ := nat_of c1
    rw [tn_i] at hQ
    refine Drawing_find_c p1 hi ?_
    have hw := w.g.1.2 i hi
    by_cases c2 : 0 ≤ v ∧ v ≤ 9
    · rw [if_neg (fun q => q c2)] at hQ
      obtain ⟨k, rfl, hk⟩ := nat_of (n := 10) (show 0 ≤ v ∧ v < ((10 : Nat) : Int) by omega)
      rw [tn_i] at hQ
      refine B_Pens_of_8 ?_
      simp only [wp_cons, wp_nil, List.getElem?_cons_zero, List.getElem?_cons_succ, List.set_cons_zero, List.set_cons_succ, s_astore_n3, pA_r, pA_n, s1_0, s1_s, kx_i, kx_r, kx_s, kx_n, kx_l, kx_0, s_aload_n3, ldA_r, ldA_n, ldA_s, s_ifnonnull, true_and, and_true, Nat.le_refl, true_implies, forall_const, not_false_eq_true, false_implies, not_true_eq_false, reduceCtorEq, tl_s, tl_n, rf_s, List.cons_append, List.nil_append, true_or, or_true, p0, p1.c]
      refine B_Pens_of_15 ?_
      simp only [wp_cons, wp_nil, List.getElem?_cons_zero, List.getElem?_cons_succ, List.set_cons_zero, List.set_cons_succ, s_iload_n2, ldI_s, s_ifCond_lt, p1_s, true_and, and_true, Nat.le_refl, true_implies, forall_const, not_false_eq_true, false_implies, not_true_eq_false, reduceCtorEq, tl_s, tl_n, rf_s, List.cons_append, List.nil_append, true_or, or_true, p0, p1.c]
      refine b_lt (by omega) (by omega) (fun cc => absurd cc (by omega)) (fun cc => ?_)
      refine B_Pens_of_19 ?_
      simp only [wp_cons, wp_nil, List.getElem?_cons_zero, List.getElem?_cons_succ, List.set_cons_zero, List.set_cons_succ, s_iload_n2, ldI_s, s_bipush, s_if_icmp_le, p2_s, true_and, and_true, Nat.le_refl, true_implies, forall_const, not_false_eq_true, false_implies, not_true_eq_false, reduceCtorEq, tl_s, tl_n, rf_s, List.cons_append, List.nil_append, true_or, or_true, p0, p1.c]
      refine b_le (by omega) (by omega) (fun cc => ?_) (fun cc => absurd cc (by omega))
      refine B_Pens_of_28 ?_
      simp only [wp_cons, wp_nil, List.getElem?_cons_zero, List.getElem?_cons_succ, List.set_cons_zero, List.set_cons_succ, s_aload_n3, ldA_r, ldA_n, ldA_s, s_iload_n2, ldI_s, s_invokestatic, rc_s, ob_s, List.drop_succ_cons, List.drop_zero, List.take_succ_cons, List.take_zero, List.reverse_cons, List.reverse_nil, List.nil_append, List.cons_append, List.length_cons, List.length_nil, Nat.reduceEqDiff, eq_self, reduceIte, p1_s, p2_s, l1_s, d1, Int.reduceToNat, Nat.reduceAdd, Nat.reduceLeDiff, true_and, and_true, Nat.le_refl, true_implies, forall_const, not_false_eq_true, false_implies, not_true_eq_false, reduceCtorEq, tl_s, tl_n, rf_s, true_or, or_true, p0, p1.c]
      refine Measures_figure_c (by omega) (p1.st hi) (by have := hw.1; omega) hw.2.2.1 (by omega) ?_
      refine B_Pens_of_33 ?_
      simp only [wp_cons, wp_nil, List.getElem?_cons_zero, List.getElem?_cons_succ, List.set_cons_zero, List.set_cons_succ, s_ireturn, p1_s, rI_i, rI_z, rI_c, z_01, z_11, rt_Pens_of, true_and, and_true, Nat.le_refl, true_implies, forall_const, not_false_eq_true, false_implies, not_true_eq_false, reduceCtorEq, tl_s, tl_n, rf_s, List.cons_append, List.nil_append, true_or, or_true, p0, p1.c]
      exact hQ
    · rw [if_pos c2] at hQ
      by_cases c3 : v < 0
      · refine B_Pens_of_8 ?_
        simp only [wp_cons, wp_nil, List.getElem?_cons_zero, List.getElem?_cons_succ, List.set_cons_zero, List.set_cons_succ, s_astore_n3, pA_r, pA_n, s1_0, s1_s, kx_i, kx_r, kx_s, kx_n, kx_l, kx_0, s_aload_n3, ldA_r, ldA_n, ldA_s, s_ifnonnull, true_and, and_true, Nat.le_refl, true_implies, forall_const, not_false_eq_true, false_implies, not_true_eq_false, reduceCtorEq, tl_s, tl_n, rf_s, List.cons_append, List.nil_append, true_or, or_true, p0, p1.c]
        refine B_Pens_of_15 ?_
        simp only [wp_cons, wp_nil, List.getElem?_cons_zero, List.getElem?_cons_succ, List.set_cons_zero, List.set_cons_succ, s_iload_n2, ldI_s, s_ifCond_lt, p1_s, true_and, and_true, Nat.le_refl, true_implies, forall_const, not_false_eq_true, false_implies, not_true_eq_false, reduceCtorEq, tl_s, tl_n, rf_s, List.cons_append, List.nil_append, true_or, or_true, p0, p1.c]
        refine b_lt (by omega) (by omega) (fun cc => ?_) (fun cc => absurd cc (by omega))
        refine B_Pens_of_25 ?_
        simp only [wp_cons, wp_nil, List.getElem?_cons_zero, List.getElem?_cons_succ, List.set_cons_zero, List.set_cons_succ, s_bipush, s_ireturn, p1_s, rI_i, rI_z, rI_c, z_01, z_11, rt_Pens_of, true_and, and_true, Nat.le_refl, true_implies, forall_const, not_false_eq_true, false_implies, not_true_eq_false, reduceCtorEq, tl_s, tl_n, rf_s, List.cons_append, List.nil_append, true_or, or_true, p0, p1.c]
        exact hQ
      · refine B_Pens_of_8 ?_
        simp only [wp_cons, wp_nil, List.getElem?_cons_zero, List.getElem?_cons_succ, List.set_cons_zero, List.set_cons_succ, s_astore_n3, pA_r, pA_n, s1_0, s1_s, kx_i, kx_r, kx_s, kx_n, kx_l, kx_0, s_aload_n3, ldA_r, ldA_n, ldA_s, s_ifnonnull, true_and, and_true, Nat.le_refl, true_implies, forall_const, not_false_eq_true, false_implies, not_true_eq_false, reduceCtorEq, tl_s, tl_n, rf_s, List.cons_append, List.nil_append, true_or, or_true, p0, p1.c]
        refine B_Pens_of_15 ?_
        simp only [wp_cons, wp_nil, List.getElem?_cons_zero, List.getElem?_cons_succ, List.set_cons_zero, List.set_cons_succ, s_iload_n2, ldI_s, s_ifCond_lt, p1_s, true_and, and_true, Nat.le_refl, true_implies, forall_const, not_false_eq_true, false_implies, not_true_eq_false, reduceCtorEq, tl_s, tl_n, rf_s, List.cons_append, List.nil_append, true_or, or_true, p0, p1.c]
        refine b_lt (by omega) (by omega) (fun cc => absurd cc (by omega)) (fun cc => ?_)
        refine B_Pens_of_19 ?_
        simp only [wp_cons, wp_nil, List.getElem?_cons_zero, List.getElem?_cons_succ, List.set_cons_zero, List.set_cons_succ, s_iload_n2, ldI_s, s_bipush, s_if_icmp_le, p2_s, true_and, and_true, Nat.le_refl, true_implies, forall_const, not_false_eq_true, false_implies, not_true_eq_false, reduceCtorEq, tl_s, tl_n, rf_s, List.cons_append, List.nil_append, true_or, or_true, p0, p1.c]
        refine b_le (by omega) (by omega) (fun cc => absurd cc (by omega)) (fun cc => ?_)
        refine B_Pens_of_25 ?_
        simp only [wp_cons, wp_nil, List.getElem?_cons_zero, List.getElem?_cons_succ, List.set_cons_zero, List.set_cons_succ, s_bipush, s_ireturn, p1_s, rI_i, rI_z, rI_c, z_01, z_11, rt_Pens_of, true_and, and_true, Nat.le_refl, true_implies, forall_const, not_false_eq_true, false_implies, not_true_eq_false, reduceCtorEq, tl_s, tl_n, rf_s, List.cons_append, List.nil_append, true_or, or_true, p0, p1.c]
        exact hQ
  · rw [if_pos c1] at hQ
    refine Drawing_find_n p1 hs (by omega) ?_
    refine B_Pens_of_8 ?_
    simp only [wp_cons, wp_nil, List.getElem?_cons_zero, List.getElem?_cons_succ, List.set_cons_zero, List.set_cons_succ, s_astore_n3, pA_r, pA_n, s1_0, s1_s, kx_i, kx_r, kx_s, kx_n, kx_l, kx_0, s_aload_n3, ldA_r, ldA_n, ldA_s, s_ifnonnull, true_and, and_true, Nat.le_refl, true_implies, forall_const, not_false_eq_true, false_implies, not_true_eq_false, reduceCtorEq, tl_s, tl_n, rf_s, List.cons_append, List.nil_append, true_or, or_true, p0, p1.c]
    refine B_Pens_of_13 ?_
    simp only [wp_cons, wp_nil, List.getElem?_cons_zero, List.getElem?_cons_succ, List.set_cons_zero, List.set_cons_succ, s_iconst, s_ireturn, p1_s, rI_i, rI_z, rI_c, z_01, z_11, rt_Pens_of, true_and, and_true, Nat.le_refl, true_implies, forall_const, not_false_eq_true, false_implies, not_true_eq_false, reduceCtorEq, tl_s, tl_n, rf_s, List.cons_append, List.nil_append, true_or, or_true, p0, p1.c]
    exact hQ
theorem Pens_point_c {d P : Nat} (hd : 8 ≤ d) {W : Wd} {s k : Int} {h : g_H} {Q : g_Po} (w : wfW W) (hp : pens h P W) (hs : i32 s) (hk : i32 k) (hQ : Q (some (.int (I (sp_point W s k).1))) h) : Call Pens_point d 0 0 [.ref P, .int (I s), .int (I k)] h Q := by
  have d1 : 1 ≤ d := by omega
  obtain ⟨⟨Ss, pn⟩, Hs, T, l⟩ := W
  obtain ⟨σ, hp⟩ := hp
  obtain ⟨p0, p1, p2, p3, p4, p5, p6, p7⟩ := hp.g
  have hlen : Ss.length ≤ 10 := p1.len
  unfold sp_point at hQ
  dsimp only at hQ
  refine Call.intro (by rfl) (Nat.le_of_ble_eq_true rfl) ?_
  refine G.eqL (L := [some (.ref _), some (.int _), some (.int _), none]) rfl ?_
  refine B_Pens_point_0 ?_
  simp only [wp_cons, wp_nil, List.getElem?_cons_zero, List.getElem?_cons_succ, List.set_cons_zero, List.set_cons_succ, s_aload_n0, ldA_r, ldA_n, ldA_s, s_getfield, pR_s, ob_s, gt_s, s_iload_n1, ldI_s, s_invokevirtual, rc_s, List.drop_succ_cons, List.drop_zero, List.take_succ_cons, List.take_zero, List.reverse_cons, List.reverse_nil, List.nil_append, List.cons_append, List.length_cons, List.length_nil, d1, Int.reduceToNat, Nat.reduceAdd, Nat.reduceLeDiff, true_and, and_true, Nat.le_refl, true_implies, forall_const, not_false_eq_true, false_implies, not_true_eq_false, reduceCtorEq, tl_s, tl_n, rf_s, true_or, or_true, p0, p1.c]
  by_cases c1 : inS Ss s
  · obtain ⟨i, rfl, hi⟩ := nat_of c1
    rw [tn_i] at hQ
    refine Drawing_find_c p1 hi ?_
    have hn := (w.g.1.2 i hi).2.1
    have st := p1.st hi
    by_cases ck : 0 ≤ k ∧ k < (sg Ss i).1.length
    · rw [if_neg (fun q => q ⟨c1, ck⟩)] at hQ
      obtain ⟨j, rfl, hj⟩ := nat_of ck
      rw [tn_i] at hQ
      refine B_Pens_point_8 ?_
      simp only [wp_cons, wp_nil, List.getElem?_cons_zero, List.getElem?_cons_succ, List.set_cons_zero, List.set_cons_succ, s_astore_n3, pA_r, pA_n, s1_0, s1_s, kx_i, kx_r, kx_s, kx_n, kx_l, kx_0, s_aload_n3, ldA_r, ldA_n, ldA_s, s_ifnull, true_and, and_true, Nat.le_refl, true_implies, forall_const, not_false_eq_true, false_implies, not_true_eq_false, reduceCtorEq, tl_s, tl_n, rf_s, List.cons_append, List.nil_append, true_or, or_true, p0, p1.c, st.c]
      refine B_Pens_point_13 ?_
      simp only [wp_cons, wp_nil, List.getElem?_cons_zero, List.getElem?_cons_succ, List.set_cons_zero, List.set_cons_succ, s_iload_n2, ldI_s, s_ifCond_lt, p1_s, true_and, and_true, Nat.le_refl, true_implies, forall_const, not_false_eq_true, false_implies, not_true_eq_false, reduceCtorEq, tl_s, tl_n, rf_s, List.cons_append, List.nil_append, true_or, or_true, p0, p1.c, st.c]
      refine b_lt (by omega) (by omega) (fun cc => absurd cc (by omega)) (fun cc => ?_)
      refine B_Pens_point_17 ?_
      simp only [wp_cons, wp_nil, List.getElem?_cons_zero, List.getElem?_cons_succ, List.set_cons_zero, List.set_cons_succ, s_iload_n2, ldI_s, s_aload_n3, ldA_r, ldA_n, ldA_s, s_getfield, pR_s, ob_s, gt_s, s_if_icmp_lt, p2_s, true_and, and_true, Nat.le_refl, true_implies, forall_const, not_false_eq_true, false_implies, not_true_eq_false, reduceCtorEq, tl_s, tl_n, rf_s, List.cons_append, List.nil_append, true_or, or_true, p0, p1.c, st.c]
      refine b_lt (by omega) (by omega) (fun cc => ?_) (fun cc => absurd cc (by omega))
      refine B_Pens_point_27 ?_
      simp only [wp_cons, wp_nil, List.getElem?_cons_zero, List.getElem?_cons_succ, List.set_cons_zero, List.set_cons_succ, s_aload_n3, ldA_r, ldA_n, ldA_s, s_iload_n2, ldI_s, s_invokevirtual, rc_s, ob_s, List.drop_succ_cons, List.drop_zero, List.take_succ_cons, List.take_zero, List.reverse_cons, List.reverse_nil, List.nil_append, List.cons_append, List.length_cons, List.length_nil, d1, Int.reduceToNat, Nat.reduceAdd, Nat.reduceLeDiff, true_and, and_true, Nat.le_refl, true_implies, forall_const, not_false_eq_true, false_implies, not_true_eq_false, reduceCtorEq, tl_s, tl_n, rf_s, true_or, or_true, p0, p1.c, st.c]
      refine Stroke_at_c st hj ?_
      refine B_Pens_point_32 ?_
      simp only [wp_cons, wp_nil, List.getElem?_cons_zero, List.getElem?_cons_succ, List.set_cons_zero, List.set_cons_succ, s_ireturn, p1_s, rI_i, rI_z, rI_c, z_01, z_11, rt_Pens_point, true_and, and_true, Nat.le_refl, true_implies, forall_const, not_false_eq_true, false_implies, not_true_eq_false, reduceCtorEq, tl_s, tl_n, rf_s, List.cons_append, List.nil_append, true_or, or_true, p0, p1.c, st.c]
      exact hQ
    · rw [if_pos (fun q => ck q.2)] at hQ
      by_cases c3 : k < 0
      · refine B_Pens_point_8 ?_
        simp only [wp_cons, wp_nil, List.getElem?_cons_zero, List.getElem?_cons_succ, List.set_cons_zero, List.set_cons_succ, s_astore_n3, pA_r, pA_n, s1_0, s1_s, kx_i, kx_r, kx_s, kx_n, kx_l, kx_0, s_aload_n3, ldA_r, ldA_n, ldA_s, s_ifnull, true_and, and_true, Nat.le_refl, true_implies, forall_const, not_false_eq_true, false_implies, not_true_eq_false, reduceCtorEq, tl_s, tl_n, rf_s, List.cons_append, List.nil_append, true_or, or_true, p0, p1.c, st.c]
        refine B_Pens_point_13 ?_
        simp only [wp_cons, wp_nil, List.getElem?_cons_zero, List.getElem?_cons_succ, List.set_cons_zero, List.set_cons_succ, s_iload_n2, ldI_s, s_ifCond_lt, p1_s, true_and, and_true, Nat.le_refl, true_implies, forall_const, not_false_eq_true, false_implies, not_true_eq_false, reduceCtorEq, tl_s, tl_n, rf_s, List.cons_append, List.nil_append, true_or, or_true, p0, p1.c, st.c]
        refine b_lt (by omega) (by omega) (fun cc => ?_) (fun cc => absurd cc (by omega))
        refine B_Pens_point_25 ?_
        simp only [wp_cons, wp_nil, List.getElem?_cons_zero, List.getElem?_cons_succ, List.set_cons_zero, List.set_cons_succ, s_iconst, s_ireturn, p1_s, rI_i, rI_z, rI_c, z_01, z_11, rt_Pens_point, true_and, and_true, Nat.le_refl, true_implies, forall_const, not_false_eq_true, false_implies, not_true_eq_false, reduceCtorEq, tl_s, tl_n, rf_s, List.cons_append, List.nil_append, true_or, or_true, p0, p1.c, st.c]
        exact hQ
      · refine B_Pens_point_8 ?_
        simp only [wp_cons, wp_nil, List.getElem?_cons_zero, List.getElem?_cons_succ, List.set_cons_zero, List.set_cons_succ, s_astore_n3, pA_r, pA_n, s1_0, s1_s, kx_i, kx_r, kx_s, kx_n, kx_l, kx_0, s_aload_n3, ldA_r, ldA_n, ldA_s, s_ifnull, true_and, and_true, Nat.le_refl, true_implies, forall_const, not_false_eq_true, false_implies, not_true_eq_false, reduceCtorEq, tl_s, tl_n, rf_s, List.cons_append, List.nil_append, true_or, or_true, p0, p1.c, st.c]
        refine B_Pens_point_13 ?_
        simp only [wp_cons, wp_nil, List.getElem?_cons_zero, List.getElem?_cons_succ, List.set_cons_zero, List.set_cons_succ, s_iload_n2, ldI_s, s_ifCond_lt, p1_s, true_and, and_true, Nat.le_refl, true_implies, forall_const, not_false_eq_true, false_implies, not_true_eq_false, reduceCtorEq, tl_s, tl_n, rf_s, List.cons_append, List.nil_append, true_or, or_true, p0, p1.c, st.c]
        refine b_lt (by omega) (by omega) (fun cc => absurd cc (by omega)) (fun cc => ?_)
        refine B_Pens_point_17 ?_
        simp only [wp_cons, wp_nil, List.getElem?_cons_zero, List.getElem?_cons_succ, List.set_cons_zero, List.set_cons_succ, s_iload_n2, ldI_s, s_aload_n3, ldA_r, ldA_n, ldA_s, s_getfield, pR_s, ob_s, gt_s, s_if_icmp_lt, p2_s, true_and, and_true, Nat.le_refl, true_implies, forall_const, not_false_eq_true, false_implies, not_true_eq_false, reduceCtorEq, tl_s, tl_n, rf_s, List.cons_append, List.nil_append, true_or, or_true, p0, p1.c, st.c]
        refine b_lt (by omega) (by omega) (fun cc => absurd cc (by omega)) (fun cc => ?_)
        refine B_Pens_point_25 ?_
        simp only [wp_cons, wp_nil, List.getElem?_cons_zero, List.getElem?_cons_succ, List.set_cons_zero, List.set_cons_succ, s_iconst, s_ireturn, p1_s, rI_i, rI_z, rI_c, z_01, z_11, rt_Pens_point, true_and, and_true, Nat.le_refl, true_implies, forall_const, not_false_eq_true, false_implies, not_true_eq_false, reduceCtorEq, tl_s, tl_n, rf_s, List.cons_append, List.nil_append, true_or, or_true, p0, p1.c, st.c]
        exact hQ
  · rw [if_pos (fun q => c1 q.1)] at hQ
    refine Drawing_find_n p1 hs (by omega) ?_
    refine B_Pens_point_8 ?_
    simp only [wp_cons, wp_nil, List.getElem?_cons_zero, List.getElem?_cons_succ, List.set_cons_zero, List.set_cons_succ, s_astore_n3, pA_r, pA_n, s1_0, s1_s, kx_i, kx_r, kx_s, kx_n, kx_l, kx_0, s_aload_n3, ldA_r, ldA_n, ldA_s, s_ifnull, true_and, and_true, Nat.le_refl, true_implies, forall_const, not_false_eq_true, false_implies, not_true_eq_false, reduceCtorEq, tl_s, tl_n, rf_s, List.cons_append, List.nil_append, true_or, or_true, p0, p1.c]
    refine B_Pens_point_25 ?_
    simp only [wp_cons, wp_nil, List.getElem?_cons_zero, List.getElem?_cons_succ, List.set_cons_zero, List.set_cons_succ, s_iconst, s_ireturn, p1_s, rI_i, rI_z, rI_c, z_01, z_11, rt_Pens_point, true_and, and_true, Nat.le_refl, true_implies, forall_const, not_false_eq_true, false_implies, not_true_eq_false, reduceCtorEq, tl_s, tl_n, rf_s, List.cons_append, List.nil_append, true_or, or_true, p0, p1.c]
    exact hQ
theorem Pens_cross_c {d P : Nat} (hd : 8 ≤ d) {W : Wd} {a b : Int} {h : g_H} {Q : g_Po} (w : wfW W) (hp : pens h P W) (ha : i32 a) (hb : i32 b) (hQ : Q (some (.int (I (sp_cross W a b).1))) h) : Call Pens_crossings d 0 0 [.ref P, .int (I a), .int (I b)] h Q := by
  have d1 : 1 ≤ d := by omega
  obtain ⟨⟨Ss, pn⟩, Hs, T, l⟩ := W
  obtain ⟨σ, hp⟩ := hp
  obtain ⟨p0, p1, p2, p3, p4, p5, p6, p7⟩ := hp.g
  have hlen : Ss.length ≤ 10 := p1.len
  unfold sp_cross at hQ
  dsimp only at hQ
  refine Call.intro (by rfl) (Nat.le_of_ble_eq_true rfl) ?_
  refine G.eqL (L := [some (.ref _), some (.int _), some (.int _), none, none]) rfl ?_
  refine B_Pens_crossings_0 ?_
  simp only [wp_cons, wp_nil, List.getElem?_cons_zero, List.getElem?_cons_succ, List.set_cons_zero, List.set_cons_succ, s_aload_n0, ldA_r, ldA_n, ldA_s, s_getfield, pR_s, ob_s, gt_s, s_iload_n1, ldI_s, s_invokevirtual, rc_s, List.drop_succ_cons, List.drop_zero, List.take_succ_cons, List.take_zero, List.reverse_cons, List.reverse_nil, List.nil_append, List.cons_append, List.length_cons, List.length_nil, d1, Int.reduceToNat, Nat.reduceAdd, Nat.reduceLeDiff, true_and, and_true, Nat.le_refl, true_implies, forall_const, not_false_eq_true, false_implies, not_true_eq_false, reduceCtorEq, tl_s, tl_n, rf_s, true_or, or_true, p0, p1.c]
  by_cases c1 : inS Ss a
  · obtain ⟨i, rfl, hi⟩ := nat_of c1
    refine Drawing_find_c p1 hi ?_
    refine B_Pens_crossings_8 ?_
    simp only [wp_cons, wp_nil, List.getElem?_cons_zero, List.getElem?_cons_succ, List.set_cons_zero, List.set_cons_succ, s_astore_n3, pA_r, pA_n, s1_0, s1_s, kx_i, kx_r, kx_s, kx_n, kx_l, kx_0, s_aload_n0, ldA_r, ldA_n, ldA_s, s_getfield, pR_s, ob_s, gt_s, s_iload_n2, ldI_s, s_invokevirtual, rc_s, List.drop_succ_cons, List.drop_zero, List.take_succ_cons, List.take_zero, List.reverse_cons, List.reverse_nil, List.nil_append, List.cons_append, List.length_cons, List.length_nil, d1, Int.reduceToNat, Nat.reduceAdd, Nat.reduceLeDiff, true_and, and_true, Nat.le_refl, true_implies, forall_const, not_false_eq_true, false_implies, not_true_eq_false, reduceCtorEq, tl_s, tl_n, rf_s, true_or, or_true, p0, p1.c]
    by_cases c2 : inS Ss b
    · obtain ⟨j, rfl, hj⟩ := nat_of c2
      refine Drawing_find_c p1 hj ?_
      rw [if_neg (fun q => q ⟨c1, c2⟩), tn_i, tn_i] at hQ
      by_cases c3 : (i : Int) = j
      · rw [if_pos c3] at hQ
        refine B_Pens_crossings_17 ?_
        simp only [wp_cons, wp_nil, List.getElem?_cons_zero, List.getElem?_cons_succ, List.set_cons_zero, List.set_cons_succ, s_astore, pA_r, pA_n, s1_0, s1_s, kx_i, kx_r, kx_s, kx_n, kx_l, kx_0, s_aload_n3, ldA_r, ldA_n, ldA_s, s_ifnull, true_and, and_true, Nat.le_refl, true_implies, forall_const, not_false_eq_true, false_implies, not_true_eq_false, reduceCtorEq, tl_s, tl_n, rf_s, List.cons_append, List.nil_append, true_or, or_true, p0, p1.c]
        refine B_Pens_crossings_23 ?_
        simp only [wp_cons, wp_nil, List.getElem?_cons_zero, List.getElem?_cons_succ, List.set_cons_zero, List.set_cons_succ, s_aload, ldA_r, ldA_n, ldA_s, s_ifnonnull, pA_r, pA_n, true_and, and_true, Nat.le_refl, true_implies, forall_const, not_false_eq_true, false_implies, not_true_eq_false, reduceCtorEq, tl_s, tl_n, rf_s, List.cons_append, List.nil_append, true_or, or_true, p0, p1.c]
        refine B_Pens_crossings_30 ?_
        simp only [wp_cons, wp_nil, List.getElem?_cons_zero, List.getElem?_cons_succ, List.set_cons_zero, List.set_cons_succ, s_iload_n1, ldI_s, s_iload_n2, s_if_icmp_ne, p2_s, true_and, and_true, Nat.le_refl, true_implies, forall_const, not_false_eq_true, false_implies, not_true_eq_false, reduceCtorEq, tl_s, tl_n, rf_s, List.cons_append, List.nil_append, true_or, or_true, p0, p1.c]
        refine b_ne (by omega) (by omega) (fun cc => absurd cc (by omega)) (fun cc => ?_)
        refine B_Pens_crossings_35 ?_
        simp only [wp_cons, wp_nil, List.getElem?_cons_zero, List.getElem?_cons_succ, List.set_cons_zero, List.set_cons_succ, s_bipush, s_ireturn, p1_s, rI_i, rI_z, rI_c, z_01, z_11, rt_Pens_crossings, true_and, and_true, Nat.le_refl, true_implies, forall_const, not_false_eq_true, false_implies, not_true_eq_false, reduceCtorEq, tl_s, tl_n, rf_s, List.cons_append, List.nil_append, true_or, or_true, p0, p1.c]
        exact hQ
      · rw [if_neg c3] at hQ
        have w1 := w.g.1.2 i hi
        have w2 := w.g.1.2 j hj
        refine B_Pens_crossings_17 ?_
        simp only [wp_cons, wp_nil, List.getElem?_cons_zero, List.getElem?_cons_succ, List.set_cons_zero, List.set_cons_succ, s_astore, pA_r, pA_n, s1_0, s1_s, kx_i, kx_r, kx_s, kx_n, kx_l, kx_0, s_aload_n3, ldA_r, ldA_n, ldA_s, s_ifnull, true_and, and_true, Nat.le_refl, true_implies, forall_const, not_false_eq_true, false_implies, not_true_eq_false, reduceCtorEq, tl_s, tl_n, rf_s, List.cons_append, List.nil_append, true_or, or_true, p0, p1.c]
        refine B_Pens_crossings_23 ?_
        simp only [wp_cons, wp_nil, List.getElem?_cons_zero, List.getElem?_cons_succ, List.set_cons_zero, List.set_cons_succ, s_aload, ldA_r, ldA_n, ldA_s, s_ifnonnull, pA_r, pA_n, true_and, and_true, Nat.le_refl, true_implies, forall_const, not_false_eq_true, false_implies, not_true_eq_false, reduceCtorEq, tl_s, tl_n, rf_s, List.cons_append, List.nil_append, true_or, or_true, p0, p1.c]
        refine B_Pens_crossings_30 ?_
        simp only [wp_cons, wp_nil, List.getElem?_cons_zero, List.getElem?_cons_succ, List.set_cons_zero, List.set_cons_succ, s_iload_n1, ldI_s, s_iload_n2, s_if_icmp_ne, p2_s, true_and, and_true, Nat.le_refl, true_implies, forall_const, not_false_eq_true, false_implies, not_true_eq_false, reduceCtorEq, tl_s, tl_n, rf_s, List.cons_append, List.nil_append, true_or, or_true, p0, p1.c]
        refine b_ne (by omega) (by omega) (fun cc => ?_) (fun cc => absurd cc (by omega))
        refine B_Pens_crossings_38 ?_
        simp only [wp_cons, wp_nil, List.getElem?_cons_zero, List.getElem?_cons_succ, List.set_cons_zero, List.set_cons_succ, s_aload_n3, ldA_r, ldA_n, ldA_s, s_aload, s_invokestatic, rc_s, ob_s, List.drop_succ_cons, List.drop_zero, List.take_succ_cons, List.take_zero, List.reverse_cons, List.reverse_nil, List.nil_append, List.cons_append, List.length_cons, List.length_nil, Nat.reduceEqDiff, eq_self, reduceIte, p1_s, p2_s, l1_s, d1, Int.reduceToNat, Nat.reduceAdd, Nat.reduceLeDiff, true_and, and_true, Nat.le_refl, true_implies, forall_const, not_false_eq_true, false_implies, not_true_eq_false, reduceCtorEq, tl_s, tl_n, rf_s, true_or, or_true, p0, p1.c]
        refine Measures_cx2_c (by omega) (p1.st hi) (by have := w1.1; omega) w1.2.2.1 (p1.st hj) (by have := w2.1; omega) w2.2.2.1 ?_
        refine B_Pens_crossings_44 ?_
        simp only [wp_cons, wp_nil, List.getElem?_cons_zero, List.getElem?_cons_succ, List.set_cons_zero, List.set_cons_succ, s_ireturn, p1_s, rI_i, rI_z, rI_c, z_01, z_11, rt_Pens_crossings, true_and, and_true, Nat.le_refl, true_implies, forall_const, not_false_eq_true, false_implies, not_true_eq_false, reduceCtorEq, tl_s, tl_n, rf_s, List.cons_append, List.nil_append, true_or, or_true, p0, p1.c]
        exact hQ
    · rw [if_pos (fun q => c2 q.2)] at hQ
      refine Drawing_find_n p1 hb (by omega) ?_
      refine B_Pens_crossings_17 ?_
      simp only [wp_cons, wp_nil, List.getElem?_cons_zero, List.getElem?_cons_succ, List.set_cons_zero, List.set_cons_succ, s_astore, pA_r, pA_n, s1_0, s1_s, kx_i, kx_r, kx_s, kx_n, kx_l, kx_0, s_aload_n3, ldA_r, ldA_n, ldA_s, s_ifnull, true_and, and_true, Nat.le_refl, true_implies, forall_const, not_false_eq_true, false_implies, not_true_eq_false, reduceCtorEq, tl_s, tl_n, rf_s, List.cons_append, List.nil_append, true_or, or_true, p0, p1.c]
      refine B_Pens_crossings_23 ?_
      simp only [wp_cons, wp_nil, List.getElem?_cons_zero, List.getElem?_cons_succ, List.set_cons_zero, List.set_cons_succ, s_aload, ldA_r, ldA_n, ldA_s, s_ifnonnull, pA_r, pA_n, true_and, and_true, Nat.le_refl, true_implies, forall_const, not_false_eq_true, false_implies, not_true_eq_false, reduceCtorEq, tl_s, tl_n, rf_s, List.cons_append, List.nil_append, true_or, or_true, p0, p1.c]
      refine B_Pens_crossings_28 ?_
      simp only [wp_cons, wp_nil, List.getElem?_cons_zero, List.getElem?_cons_succ, List.set_cons_zero, List.set_cons_succ, s_iconst, s_ireturn, p1_s, rI_i, rI_z, rI_c, z_01, z_11, rt_Pens_crossings, true_and, and_true, Nat.le_refl, true_implies, forall_const, not_false_eq_true, false_implies, not_true_eq_false, reduceCtorEq, tl_s, tl_n, rf_s, List.cons_append, List.nil_append, true_or, or_true, p0, p1.c]
      exact hQ
  · rw [if_pos (fun q => c1 q.1)] at hQ
    refine Drawing_find_n p1 ha (by omega) ?_
    refine B_Pens_crossings_8 ?_
    simp only [wp_cons, wp_nil, List.getElem?_cons_zero, List.getElem?_cons_succ, List.set_cons_zero, List.set_cons_succ, s_astore_n3, pA_r, pA_n, s1_0, s1_s, kx_i, kx_r, kx_s, kx_n, kx_l, kx_0, s_aload_n0, ldA_r, ldA_n, ldA_s, s_getfield, pR_s, ob_s, gt_s, s_iload_n2, ldI_s, s_invokevirtual, rc_s, List.drop_succ_cons, List.drop_zero, List.take_succ_cons, List.take_zero, List.reverse_cons, List.reverse_nil, List.nil_append, List.cons_append, List.length_cons, List.length_nil, d1, Int.reduceToNat, Nat.reduceAdd, Nat.reduceLeDiff, true_and, and_true, Nat.le_refl, true_implies, forall_const, not_false_eq_true, false_implies, not_true_eq_false, reduceCtorEq, tl_s, tl_n, rf_s, true_or, or_true, p0, p1.c]
    by_cases c2 : inS Ss b
    · obtain ⟨j, rfl, hj⟩ := nat_of c2
      refine Drawing_find_c p1 hj ?_
      refine B_Pens_crossings_17 ?_
      simp only [wp_cons, wp_nil, List.getElem?_cons_zero, List.getElem?_cons_succ, List.set_cons_zero, List.set_cons_succ, s_astore, pA_r, pA_n, s1_0, s1_s, kx_i, kx_r, kx_s, kx_n, kx_l, kx_0, s_aload_n3, ldA_r, ldA_n, ldA_s, s_ifnull, true_and, and_true, Nat.le_refl, true_implies, forall_const, not_false_eq_true, false_implies, not_true_eq_false, reduceCtorEq, tl_s, tl_n, rf_s, List.cons_append, List.nil_append, true_or, or_true, p0, p1.c]
      refine B_Pens_crossings_28 ?_
      simp only [wp_cons, wp_nil, List.getElem?_cons_zero, List.getElem?_cons_succ, List.set_cons_zero, List.set_cons_succ, s_iconst, s_ireturn, p1_s, rI_i, rI_z, rI_c, z_01, z_11, rt_Pens_crossings, true_and, and_true, Nat.le_refl, true_implies, forall_const, not_false_eq_true, false_implies, not_true_eq_false, reduceCtorEq, tl_s, tl_n, rf_s, List.cons_append, List.nil_append, true_or, or_true, p0, p1.c]
      exact hQ
    · refine Drawing_find_n p1 hb (by omega) ?_
      refine B_Pens_crossings_17 ?_
      simp only [wp_cons, wp_nil, List.getElem?_cons_zero, List.getElem?_cons_succ, List.set_cons_zero, List.set_cons_succ, s_astore, pA_r, pA_n, s1_0, s1_s, kx_i, kx_r, kx_s, kx_n, kx_l, kx_0, s_aload_n3, ldA_r, ldA_n, ldA_s, s_ifnull, true_and, and_true, Nat.le_refl, true_implies, forall_const, not_false_eq_true, false_implies, not_true_eq_false, reduceCtorEq, tl_s, tl_n, rf_s, List.cons_append, List.nil_append, true_or, or_true, p0, p1.c]
      refine B_Pens_crossings_28 ?_
      simp only [wp_cons, wp_nil, List.getElem?_cons_zero, List.getElem?_cons_succ, List.set_cons_zero, List.set_cons_succ, s_iconst, s_ireturn, p1_s, rI_i, rI_z, rI_c, z_01, z_11, rt_Pens_crossings, true_and, and_true, Nat.le_refl, true_implies, forall_const, not_false_eq_true, false_implies, not_true_eq_false, reduceCtorEq, tl_s, tl_n, rf_s, List.cons_append, List.nil_append, true_or, or_true, p0, p1.c]
      exact hQ
theorem nrb_bd {p : Int} (hp : pt p) {c : Int} (hc : 0 ≤ c ∧ c ≤ 9) {f : Nat → Int} {acc : Int × Int} (ha : (acc.1 = -6 ∨ (0 ≤ acc.1 ∧ acc.1 ≤ 1000)) ∧ 0 ≤ acc.2 ∧ acc.2 ≤ 1996002) : ∀ n, n ≤ 30 → (∀ i, i < n → pt (f i)) → ((nrb p c f n acc).1 = -6 ∨ (0 ≤ (nrb p c f n acc).1 ∧ (nrb p c f n acc).1 ≤ 1000)) ∧ 0 ≤ (nrb p c f n acc).2 ∧ (nrb p c f n acc).2 ≤ 1996002 := by
  intro n
  induction n with
  | zero => intro _ _; exact ha
  | succ n ih =>
    intro hn hf
    have h1 := sqd_bd hp (hf n (by omega))
    unfold nrb
    split
    · exact ⟨Or.inr (by show 0 ≤ 100 * c + n ∧ 100 * c + n ≤ 1000; omega), h1⟩
    · exact ih (by omega) (fun i hi => hf i (by omega))
theorem nra_bd {p : Int} (hp : pt p) {Ss : List Stk} (w : wfD Ss) : ∀ n, n ≤ Ss.length → ((nra p Ss n).1 = -6 ∨ (0 ≤ (nra p Ss n).1 ∧ (nra p Ss n).1 ≤ 1000)) ∧ 0 ≤ (nra p Ss n).2 ∧ (nra p Ss n).2 ≤ 1996002 := by
  intro n
  induction n with
  | zero => intro _; exact ⟨Or.inl rfl, Int.le_refl _, by show (0 : Int) ≤ 1996002; omega⟩
  | succ n ih =>
    intro hn
    have hw := w.2 n (by omega)
    exact nrb_bd hp (by have := w.1; omega) (ih (by omega)) _ hw.2.1 hw.2.2.1
theorem Pens_near_c {d P : Nat} (hd : 8 ≤ d) {W : Wd} {x y : Int} {h : g_H} {Q : g_Po} (w : wfW W) (hp : pens h P W) (hx : i32 x) (hy : i32 y) (hQ : Q (some (.int (I (sp_near W x y).1))) h) : Call Pens_nearest d 0 0 [.ref P, .int (I x), .int (I y)] h Q := by
  have d1 : 1 ≤ d := by omega
  obtain ⟨⟨Ss, pn⟩, Hs, T, l⟩ := W
  obtain ⟨σ, hp⟩ := hp
  obtain ⟨p0, p1, p2, p3, p4, p5, p6, p7⟩ := hp.g
  have hlen : Ss.length ≤ 10 := p1.len
  have wD := w.g.1
  unfold sp_near at hQ
  dsimp only at hQ
  refine Call.intro (by rfl) (Nat.le_of_ble_eq_true rfl) ?_
  refine G.eqL (L := [some (.ref _), some (.int _), some (.int _), none, none, none, none, none, none, none]) rfl ?_
  refine B_Pens_nearest_0 ?_
  simp only [wp_cons, wp_nil, List.getElem?_cons_zero, List.getElem?_cons_succ, List.set_cons_zero, List.set_cons_succ, s_iload_n1, ldI_s, s_iload_n2, s_invokestatic, rc_s, ob_s, List.drop_succ_cons, List.drop_zero, List.take_succ_cons, List.take_zero, List.reverse_cons, List.reverse_nil, List.nil_append, List.cons_append, List.length_cons, List.length_nil, Nat.reduceEqDiff, eq_self, reduceIte, p1_s, p2_s, l1_s, d1, Int.reduceToNat, Nat.reduceAdd, Nat.reduceLeDiff, true_and, and_true, Nat.le_refl, true_implies, forall_const, not_false_eq_true, false_implies, not_true_eq_false, reduceCtorEq, tl_s, tl_n, rf_s, true_or, or_true, p0, p1.c]
  refine Plane_isPlace_c hx hy ?_
  by_cases c1 : plc x y
  · rw [if_neg (fun q => q c1)] at hQ
    rw [if_pos (show 0 ≤ x ∧ x ≤ 999 ∧ 0 ≤ y ∧ y ≤ 999 from c1)]
    have hpt := pt_of c1
    refine B_Pens_nearest_5 ?_
    simp only [wp_cons, wp_nil, List.getElem?_cons_zero, List.getElem?_cons_succ, List.set_cons_zero, List.set_cons_succ, s_ifCond_ne, p1_s, true_and, and_true, Nat.le_refl, true_implies, forall_const, not_false_eq_true, false_implies, not_true_eq_false, reduceCtorEq, tl_s, tl_n, rf_s, List.cons_append, List.nil_append, true_or, or_true, p0, p1.c]
    refine b_ne (by omega) (by omega) (fun cc => ?_) (fun cc => absurd cc (by omega))
    refine B_Pens_nearest_11 ?_
    simp only [wp_cons, wp_nil, List.getElem?_cons_zero, List.getElem?_cons_succ, List.set_cons_zero, List.set_cons_succ, s_iload_n1, ldI_s, s_iload_n2, s_invokestatic, rc_s, ob_s, List.drop_succ_cons, List.drop_zero, List.take_succ_cons, List.take_zero, List.reverse_cons, List.reverse_nil, List.nil_append, List.cons_append, List.length_cons, List.length_nil, Nat.reduceEqDiff, eq_self, reduceIte, p1_s, p2_s, l1_s, d1, Int.reduceToNat, Nat.reduceAdd, Nat.reduceLeDiff, true_and, and_true, Nat.le_refl, true_implies, forall_const, not_false_eq_true, false_implies, not_true_eq_false, reduceCtorEq, tl_s, tl_n, rf_s, true_or, or_true, p0, p1.c]
    refine Plane_told_c ?_
    generalize 1000 * x + y = p at hQ hpt ⊢
    have inner : ∀ (i : Nat), i < Ss.length → (∀ (x7 x8 x9 : Option Value), G Pens_nearest d 0 0 0 0 27 [some (.ref P), some (.int (I x)), some (.int (I y)), some (.int (I p)), some (.int (I (nra p Ss (i + 1)).1)), some (.int (I (nra p Ss (i + 1)).2)), some (.int (I ((i + 1 : Nat) : Int))), x7, x8, x9] [] h Q) → ∀ (m k : Nat) (x9 : Option Value), k + m = (sg Ss i).1.length → G Pens_nearest d 0 0 0 0 53 [some (.ref P), some (.int (I x)), some (.int (I y)), some (.int (I p)), some (.int (I (nrb p i (pg (sg Ss i).1) k (nra p Ss i)).1)), some (.int (I (nrb p i (pg (sg Ss i).1) k (nra p Ss i)).2)), some (.int (I (i : Int))), some (.ref (σ i)), some (.int (I (k : Int))), x9] [] h Q := by
      intro i hi hO m
      have hw := wD.2 i hi
      have hn2 := hw.2.1
      have st := p1.st hi
      have r0 := nra_bd hpt wD i (by omega)
      induction m with
      | zero =>
        intro k x9 hk
        obtain rfl : k = (sg Ss i).1.length := by omega
        refine B_Pens_nearest_53 ?_
        simp only [wp_cons, wp_nil, List.getElem?_cons_zero, List.getElem?_cons_succ, List.set_cons_zero, List.set_cons_succ, s_aload, ldA_r, ldA_n, ldA_s, s_ifnull, pA_r, pA_n, true_and, and_true, Nat.le_refl, true_implies, forall_const, not_false_eq_true, false_implies, not_true_eq_false, reduceCtorEq, tl_s, tl_n, rf_s, List.cons_append, List.nil_append, true_or, or_true, p0, p1.c, st.c]
        refine B_Pens_nearest_58 ?_
        simp only [wp_cons, wp_nil, List.getElem?_cons_zero, List.getElem?_cons_succ, List.set_cons_zero, List.set_cons_succ, s_iload, ldI_s, s_aload, ldA_r, ldA_n, ldA_s, s_getfield, pR_s, ob_s, gt_s, s_if_icmp_ge, p2_s, true_and, and_true, Nat.le_refl, true_implies, forall_const, not_false_eq_true, false_implies, not_true_eq_false, reduceCtorEq, tl_s, tl_n, rf_s, List.cons_append, List.nil_append, true_or, or_true, p0, p1.c, st.c]
        refine b_le (by omega) (by omega) (fun cc => ?_) (fun cc => absurd cc (by omega))
        refine B_Pens_nearest_115 ?_
        simp only [wp_cons, wp_nil, List.getElem?_cons_zero, List.getElem?_cons_succ, List.set_cons_zero, List.set_cons_succ, s_iinc, ldI_s, s1_0, s1_s, kx_i, kx_r, kx_s, kx_n, kx_l, kx_0, I_add, s_goto, true_and, and_true, Nat.le_refl, true_implies, forall_const, not_false_eq_true, false_implies, not_true_eq_false, reduceCtorEq, tl_s, tl_n, rf_s, List.cons_append, List.nil_append, true_or, or_true, p0, p1.c, st.c]
        exact hO _ _ _
      | succ m ih =>
        intro k x9 hk
        have b1 := hw.2.2.1 k (by omega)
        have b2 := sqd_bd hpt b1
        have r1 := nrb_bd hpt (c := i) (by omega) (f := pg (sg Ss i).1) r0 k (by omega) (fun j hj => hw.2.2.1 j (by omega))
        have e1 : nrb p i (pg (sg Ss i).1) (k + 1) (nra p Ss i) = if (nrb p i (pg (sg Ss i).1) k (nra p Ss i)).1 = -6 ∨ sqd p (pg (sg Ss i).1 k) < (nrb p i (pg (sg Ss i).1) k (nra p Ss i)).2 then (100 * (i : Int) + k, sqd p (pg (sg Ss i).1 k)) else nrb p i (pg (sg Ss i).1) k (nra p Ss i) := rfl
        have ih2 := fun x9 => ih (k + 1) x9 (by omega)
        rw [e1] at ih2
        refine B_Pens_nearest_53 ?_
        simp only [wp_cons, wp_nil, List.getElem?_cons_zero, List.getElem?_cons_succ, List.set_cons_zero, List.set_cons_succ, s_aload, ldA_r, ldA_n, ldA_s, s_ifnull, pA_r, pA_n, true_and, and_true, Nat.le_refl, true_implies, forall_const, not_false_eq_true, false_implies, not_true_eq_false, reduceCtorEq, tl_s, tl_n, rf_s, List.cons_append, List.nil_append, true_or, or_true, p0, p1.c, st.c]
        refine B_Pens_nearest_58 ?_
        simp only [wp_cons, wp_nil, List.getElem?_cons_zero, List.getElem?_cons_succ, List.set_cons_zero, List.set_cons_succ, s_iload, ldI_s, s_aload, ldA_r, ldA_n, ldA_s, s_getfield, pR_s, ob_s, gt_s, s_if_icmp_ge, p2_s, true_and, and_true, Nat.le_refl, true_implies, forall_const, not_false_eq_true, false_implies, not_true_eq_false, reduceCtorEq, tl_s, tl_n, rf_s, List.cons_append, List.nil_append, true_or, or_true, p0, p1.c, st.c]
        refine b_le (by omega) (by omega) (fun cc => absurd cc (by omega)) (fun cc => ?_)
        refine B_Pens_nearest_68 ?_
        simp only [wp_cons, wp_nil, List.getElem?_cons_zero, List.getElem?_cons_succ, List.set_cons_zero, List.set_cons_succ, s_iload_n3, ldI_s, s_aload, ldA_r, ldA_n, ldA_s, s_iload, s_invokevirtual, rc_s, ob_s, List.drop_succ_cons, List.drop_zero, List.take_succ_cons, List.take_zero, List.reverse_cons, List.reverse_nil, List.nil_append, List.cons_append, List.length_cons, List.length_nil, d1, Int.reduceToNat, Nat.reduceAdd, Nat.reduceLeDiff, true_and, and_true, Nat.le_refl, true_implies, forall_const, not_false_eq_true, false_implies, not_true_eq_false, reduceCtorEq, tl_s, tl_n, rf_s, true_or, or_true, p0, p1.c, st.c]
        refine Stroke_at_c st (by omega) ?_
        refine B_Pens_nearest_76 ?_
        simp only [wp_cons, wp_nil, List.getElem?_cons_zero, List.getElem?_cons_succ, List.set_cons_zero, List.set_cons_succ, s_invokestatic, rc_s, ob_s, List.drop_succ_cons, List.drop_zero, List.take_succ_cons, List.take_zero, List.reverse_cons, List.reverse_nil, List.nil_append, List.cons_append, List.length_cons, List.length_nil, Nat.reduceEqDiff, eq_self, reduceIte, p1_s, p2_s, l1_s, d1, Int.reduceToNat, Nat.reduceAdd, Nat.reduceLeDiff, true_and, and_true, Nat.le_refl, true_implies, forall_const, not_false_eq_true, false_implies, not_true_eq_false, reduceCtorEq, tl_s, tl_n, rf_s, true_or, or_true, p0, p1.c, st.c]
        refine Plane_sqd_c (by omega) hpt b1 ?_
        by_cases c3 : (nrb p i (pg (sg Ss i).1) k (nra p Ss i)).1 = -6
        · rw [if_pos (Or.inl c3)] at ih2
          refine B_Pens_nearest_79 ?_
          simp only [wp_cons, wp_nil, List.getElem?_cons_zero, List.getElem?_cons_succ, List.set_cons_zero, List.set_cons_succ, s_istore, p1_s, s1_0, s1_s, kx_i, kx_r, kx_s, kx_n, kx_l, kx_0, s_iload, ldI_s, s_bipush, s_if_icmp_eq, p2_s, true_and, and_true, Nat.le_refl, true_implies, forall_const, not_false_eq_true, false_implies, not_true_eq_false, reduceCtorEq, tl_s, tl_n, rf_s, List.cons_append, List.nil_append, true_or, or_true, p0, p1.c, st.c]
          refine b_eq (by omega) (by omega) (fun cc => ?_) (fun cc => absurd cc (by omega))
          refine B_Pens_nearest_95 ?_
          simp only [wp_cons, wp_nil, List.getElem?_cons_zero, List.getElem?_cons_succ, List.set_cons_zero, List.set_cons_succ, s_iload, ldI_s, s_istore, p1_s, s1_0, s1_s, kx_i, kx_r, kx_s, kx_n, kx_l, kx_0, s_bipush, s_imul, p2_s, I_mul, s_iadd, I_add, true_and, and_true, Nat.le_refl, true_implies, forall_const, not_false_eq_true, false_implies, not_true_eq_false, reduceCtorEq, tl_s, tl_n, rf_s, List.cons_append, List.nil_append, true_or, or_true, p0, p1.c, st.c]
          refine B_Pens_nearest_109 ?_
          simp only [wp_cons, wp_nil, List.getElem?_cons_zero, List.getElem?_cons_succ, List.set_cons_zero, List.set_cons_succ, s_iinc, ldI_s, s1_0, s1_s, kx_i, kx_r, kx_s, kx_n, kx_l, kx_0, I_add, s_goto, true_and, and_true, Nat.le_refl, true_implies, forall_const, not_false_eq_true, false_implies, not_true_eq_false, reduceCtorEq, tl_s, tl_n, rf_s, List.cons_append, List.nil_append, true_or, or_true, p0, p1.c, st.c]
          exact ih2 _
        · by_cases c4 : sqd p (pg (sg Ss i).1 k) < (nrb p i (pg (sg Ss i).1) k (nra p Ss i)).2
          · rw [if_pos (Or.inr c4)] at ih2
            refine B_Pens_nearest_79 ?_
            simp only [wp_cons, wp_nil, List.getElem?_cons_zero, List.getElem?_cons_succ, List.set_cons_zero, List.set_cons_succ, s_istore, p1_s, s1_0, s1_s, kx_i, kx_r, kx_s, kx_n, kx_l, kx_0, s_iload, ldI_s, s_bipush, s_if_icmp_eq, p2_s, true_and, and_true, Nat.le_refl, true_implies, forall_const, not_false_eq_true, false_implies, not_true_eq_false, reduceCtorEq, tl_s, tl_n, rf_s, List.cons_append, List.nil_append, true_or, or_true, p0, p1.c, st.c]
            refine b_eq (by omega) (by omega) (fun cc => absurd cc (by omega)) (fun cc => ?_)
            refine B_Pens_nearest_88 ?_
            simp only [wp_cons, wp_nil, List.getElem?_cons_zero, List.getElem?_cons_succ, List.set_cons_zero, List.set_cons_succ, s_iload, ldI_s, s_if_icmp_ge, p2_s, true_and, and_true, Nat.le_refl, true_implies, forall_const, not_false_eq_true, false_implies, not_true_eq_false, reduceCtorEq, tl_s, tl_n, rf_s, List.cons_append, List.nil_append, true_or, or_true, p0, p1.c, st.c]
            refine b_le (by omega) (by omega) (fun cc => absurd cc (by omega)) (fun cc => ?_)
            refine B_Pens_nearest_95 ?_
            simp only [wp_cons, wp_nil, List.getElem?_cons_zero, List.getElem?_cons_succ, List.set_cons_zero, List.set_cons_succ, s_iload, ldI_s, s_istore, p1_s, s1_0, s1_s, kx_i, kx_r, kx_s, kx_n, kx_l, kx_0, s_bipush, s_imul, p2_s, I_mul, s_iadd, I_add, true_and, and_true, Nat.le_refl, true_implies, forall_const, not_false_eq_true, false_implies, not_true_eq_false, reduceCtorEq, tl_s, tl_n, rf_s, List.cons_append, List.nil_append, true_or, or_true, p0, p1.c, st.c]
            refine B_Pens_nearest_109 ?_
            simp only [wp_cons, wp_nil, List.getElem?_cons_zero, List.getElem?_cons_succ, List.set_cons_zero, List.set_cons_succ, s_iinc, ldI_s, s1_0, s1_s, kx_i, kx_r, kx_s, kx_n, kx_l, kx_0, I_add, s_goto, true_and, and_true, Nat.le_refl, true_implies, forall_const, not_false_eq_true, false_implies, not_true_eq_false, reduceCtorEq, tl_s, tl_n, rf_s, List.cons_append, List.nil_append, true_or, or_true, p0, p1.c, st.c]
            exact ih2 _
          · rw [if_neg (fun q => q.elim c3 c4)] at ih2
            refine B_Pens_nearest_79 ?_
            simp only [wp_cons, wp_nil, List.getElem?_cons_zero, List.getElem?_cons_succ, List.set_cons_zero, List.set_cons_succ, s_istore, p1_s, s1_0, s1_s, kx_i, kx_r, kx_s, kx_n, kx_l, kx_0, s_iload, ldI_s, s_bipush, s_if_icmp_eq, p2_s, true_and, and_true, Nat.le_refl, true_implies, forall_const, not_false_eq_true, false_implies, not_true_eq_false, reduceCtorEq, tl_s, tl_n, rf_s, List.cons_append, List.nil_append, true_or, or_true, p0, p1.c, st.c]
            refine b_eq (by omega) (by omega) (fun cc => absurd cc (by omega)) (fun cc => ?_)
            refine B_Pens_nearest_88 ?_
            simp only [wp_cons, wp_nil, List.getElem?_cons_zero, List.getElem?_cons_succ, List.set_cons_zero, List.set_cons_succ, s_iload, ldI_s, s_if_icmp_ge, p2_s, true_and, and_true, Nat.le_refl, true_implies, forall_const, not_false_eq_true, false_implies, not_true_eq_false, reduceCtorEq, tl_s, tl_n, rf_s, List.cons_append, List.nil_append, true_or, or_true, p0, p1.c, st.c]
            refine b_le (by omega) (by omega) (fun cc => ?_) (fun cc => absurd cc (by omega))
            refine B_Pens_nearest_109 ?_
            simp only [wp_cons, wp_nil, List.getElem?_cons_zero, List.getElem?_cons_succ, List.set_cons_zero, List.set_cons_succ, s_iinc, ldI_s, s1_0, s1_s, kx_i, kx_r, kx_s, kx_n, kx_l, kx_0, I_add, s_goto, true_and, and_true, Nat.le_refl, true_implies, forall_const, not_false_eq_true, false_implies, not_true_eq_false, reduceCtorEq, tl_s, tl_n, rf_s, List.cons_append, List.nil_append, true_or, or_true, p0, p1.c, st.c]
            exact ih2 _
    have outer : ∀ (m i : Nat) (x7 x8 x9 : Option Value), i + m = Ss.length → G Pens_nearest d 0 0 0 0 27 [some (.ref P), some (.int (I x)), some (.int (I y)), some (.int (I p)), some (.int (I (nra p Ss i).1)), some (.int (I (nra p Ss i).2)), some (.int (I (i : Int))), x7, x8, x9] [] h Q := by
      intro m
      induction m with
      | zero =>
        intro i x7 x8 x9 hi
        obtain rfl : i = Ss.length := by omega
        refine B_Pens_nearest_27 ?_
        simp only [wp_cons, wp_nil, List.getElem?_cons_zero, List.getElem?_cons_succ, List.set_cons_zero, List.set_cons_succ, s_iload, ldI_s, s_aload_n0, ldA_r, ldA_n, ldA_s, s_getfield, pR_s, ob_s, gt_s, s_if_icmp_ge, p2_s, true_and, and_true, Nat.le_refl, true_implies, forall_const, not_false_eq_true, false_implies, not_true_eq_false, reduceCtorEq, tl_s, tl_n, rf_s, List.cons_append, List.nil_append, true_or, or_true, p0, p1.c]
        refine b_le (by omega) (by omega) (fun cc => ?_) (fun cc => absurd cc (by omega))
        refine B_Pens_nearest_121 ?_
        simp only [wp_cons, wp_nil, List.getElem?_cons_zero, List.getElem?_cons_succ, List.set_cons_zero, List.set_cons_succ, s_iload, ldI_s, s_ireturn, p1_s, rI_i, rI_z, rI_c, z_01, z_11, rt_Pens_nearest, true_and, and_true, Nat.le_refl, true_implies, forall_const, not_false_eq_true, false_implies, not_true_eq_false, reduceCtorEq, tl_s, tl_n, rf_s, List.cons_append, List.nil_append, true_or, or_true, p0, p1.c]
        exact hQ
      | succ m ih =>
        intro i x7 x8 x9 hi
        refine B_Pens_nearest_27 ?_
        simp only [wp_cons, wp_nil, List.getElem?_cons_zero, List.getElem?_cons_succ, List.set_cons_zero, List.set_cons_succ, s_iload, ldI_s, s_aload_n0, ldA_r, ldA_n, ldA_s, s_getfield, pR_s, ob_s, gt_s, s_if_icmp_ge, p2_s, true_and, and_true, Nat.le_refl, true_implies, forall_const, not_false_eq_true, false_implies, not_true_eq_false, reduceCtorEq, tl_s, tl_n, rf_s, List.cons_append, List.nil_append, true_or, or_true, p0, p1.c]
        refine b_le (by omega) (by omega) (fun cc => absurd cc (by omega)) (fun cc => ?_)
        refine B_Pens_nearest_39 ?_
        simp only [wp_cons, wp_nil, List.getElem?_cons_zero, List.getElem?_cons_succ, List.set_cons_zero, List.set_cons_succ, s_aload_n0, ldA_r, ldA_n, ldA_s, s_getfield, pR_s, ob_s, gt_s, s_iload, ldI_s, s_invokevirtual, rc_s, List.drop_succ_cons, List.drop_zero, List.take_succ_cons, List.take_zero, List.reverse_cons, List.reverse_nil, List.nil_append, List.cons_append, List.length_cons, List.length_nil, d1, Int.reduceToNat, Nat.reduceAdd, Nat.reduceLeDiff, true_and, and_true, Nat.le_refl, true_implies, forall_const, not_false_eq_true, false_implies, not_true_eq_false, reduceCtorEq, tl_s, tl_n, rf_s, true_or, or_true, p0, p1.c]
        refine Drawing_find_c p1 (by omega) ?_
        refine B_Pens_nearest_48 ?_
        simp only [wp_cons, wp_nil, List.getElem?_cons_zero, List.getElem?_cons_succ, List.set_cons_zero, List.set_cons_succ, s_astore, pA_r, pA_n, s1_0, s1_s, kx_i, kx_r, kx_s, kx_n, kx_l, kx_0, s_iconst, s_istore, p1_s, true_and, and_true, Nat.le_refl, true_implies, forall_const, not_false_eq_true, false_implies, not_true_eq_false, reduceCtorEq, tl_s, tl_n, rf_s, List.cons_append, List.nil_append, true_or, or_true, p0, p1.c]
        exact inner i (by omega) (fun x7 x8 x9 => ih (i + 1) _ _ _ (by omega)) (sg Ss i).1.length 0 _ (by omega)
    refine B_Pens_nearest_16 ?_
    simp only [wp_cons, wp_nil, List.getElem?_cons_zero, List.getElem?_cons_succ, List.set_cons_zero, List.set_cons_succ, s_istore_n3, p1_s, s1_0, s1_s, kx_i, kx_r, kx_s, kx_n, kx_l, kx_0, s_bipush, s_istore, s_iconst, true_and, and_true, Nat.le_refl, true_implies, forall_const, not_false_eq_true, false_implies, not_true_eq_false, reduceCtorEq, tl_s, tl_n, rf_s, List.cons_append, List.nil_append, true_or, or_true, p0, p1.c]
    exact outer Ss.length 0 _ _ _ (by omega)
  · rw [if_pos c1] at hQ
    rw [if_neg (show ¬ (0 ≤ x ∧ x ≤ 999 ∧ 0 ≤ y ∧ y ≤ 999) from c1)]
    refine B_Pens_nearest_5 ?_
    simp only [wp_cons, wp_nil, List.getElem?_cons_zero, List.getElem?_cons_succ, List.set_cons_zero, List.set_cons_succ, s_ifCond_ne, p1_s, true_and, and_true, Nat.le_refl, true_implies, forall_const, not_false_eq_true, false_implies, not_true_eq_false, reduceCtorEq, tl_s, tl_n, rf_s, List.cons_append, List.nil_append, true_or, or_true, p0, p1.c]
    refine B_Pens_nearest_8 ?_
    simp only [wp_cons, wp_nil, List.getElem?_cons_zero, List.getElem?_cons_succ, List.set_cons_zero, List.set_cons_succ, s_bipush, s_ireturn, p1_s, rI_i, rI_z, rI_c, z_01, z_11, rt_Pens_nearest, true_and, and_true, Nat.le_refl, true_implies, forall_const, not_false_eq_true, false_implies, not_true_eq_false, reduceCtorEq, tl_s, tl_n, rf_s, List.cons_append, List.nil_append, true_or, or_true, p0, p1.c]
    exact hQ
theorem Pens_ins_c {d P : Nat} (hd : 8 ≤ d) {W : Wd} {s x y : Int} {h : g_H} {Q : g_Po} (w : wfW W) (hp : pens h P W) (hs : i32 s) (hx : i32 x) (hy : i32 y) (hQ : Q (some (.int (I (sp_ins W s x y).1))) h) : Call Pens_isInside d 0 0 [.ref P, .int (I s), .int (I x), .int (I y)] h Q := by
  have d1 : 1 ≤ d := by omega
  obtain ⟨⟨Ss, pn⟩, Hs, T, l⟩ := W
  obtain ⟨σ, hp⟩ := hp
  obtain ⟨p0, p1, p2, p3, p4, p5, p6, p7⟩ := hp.g
  have hlen : Ss.length ≤ 10 := p1.len
  unfold sp_ins at hQ
  dsimp only at hQ
  refine Call.intro (by rfl) (Nat.le_of_ble_eq_true rfl) ?_
  refine G.eqL (L := [some (.ref _), some (.int _), some (.int _), some (.int _), none]) rfl ?_
  refine B_Pens_isInside_0 ?_
  simp only [wp_cons, wp_nil, List.getElem?_cons_zero, List.getElem?_cons_succ, List.set_cons_zero, List.set_cons_succ, s_aload_n0, ldA_r, ldA_n, ldA_s, s_getfield, pR_s, ob_s, gt_s, s_iload_n1, ldI_s, s_invokevirtual, rc_s, List.drop_succ_cons, List.drop_zero, List.take_succ_cons, List.take_zero, List.reverse_cons, List.reverse_nil, List.nil_append, List.cons_append, List.length_cons, List.length_nil, d1, Int.reduceToNat, Nat.reduceAdd, Nat.reduceLeDiff, true_and, and_true, Nat.le_refl, true_implies, forall_const, not_false_eq_true, false_implies, not_true_eq_false, reduceCtorEq, tl_s, tl_n, rf_s, true_or, or_true, p0, p1.c]
  by_cases c1 : inS Ss s
  · rw [if_neg (fun q => q c1)] at hQ
    obtain ⟨i, rfl, hi⟩ := nat_of c1
    rw [tn_i] at hQ
    refine Drawing_find_c p1 hi ?_
    have hw := w.g.1.2 i hi
    have st := p1.st hi
    refine B_Pens_isInside_8 ?_
    simp only [wp_cons, wp_nil, List.getElem?_cons_zero, List.getElem?_cons_succ, List.set_cons_zero, List.set_cons_succ, s_astore, pA_r, pA_n, s1_0, s1_s, kx_i, kx_r, kx_s, kx_n, kx_l, kx_0, s_aload, ldA_r, ldA_n, ldA_s, s_ifnonnull, true_and, and_true, Nat.le_refl, true_implies, forall_const, not_false_eq_true, false_implies, not_true_eq_false, reduceCtorEq, tl_s, tl_n, rf_s, List.cons_append, List.nil_append, true_or, or_true, p0, p1.c, st.c]
    refine B_Pens_isInside_17 ?_
    simp only [wp_cons, wp_nil, List.getElem?_cons_zero, List.getElem?_cons_succ, List.set_cons_zero, List.set_cons_succ, s_iload_n2, ldI_s, s_iload_n3, s_invokestatic, rc_s, ob_s, List.drop_succ_cons, List.drop_zero, List.take_succ_cons, List.take_zero, List.reverse_cons, List.reverse_nil, List.nil_append, List.cons_append, List.length_cons, List.length_nil, Nat.reduceEqDiff, eq_self, reduceIte, p1_s, p2_s, l1_s, d1, Int.reduceToNat, Nat.reduceAdd, Nat.reduceLeDiff, true_and, and_true, Nat.le_refl, true_implies, forall_const, not_false_eq_true, false_implies, not_true_eq_false, reduceCtorEq, tl_s, tl_n, rf_s, true_or, or_true, p0, p1.c, st.c]
    refine Plane_isPlace_c hx hy ?_
    by_cases c2 : plc x y
    · rw [if_neg (fun q => q c2)] at hQ
      rw [if_pos (show 0 ≤ x ∧ x ≤ 999 ∧ 0 ≤ y ∧ y ≤ 999 from c2)]
      cases z : (sg Ss i).2 with
      | false =>
        rw [if_pos z] at hQ
        have hz1 : sz (sg Ss i).2 = 0 := by rw [z]; rfl
        refine B_Pens_isInside_22 ?_
        simp only [wp_cons, wp_nil, List.getElem?_cons_zero, List.getElem?_cons_succ, List.set_cons_zero, List.set_cons_succ, s_ifCond_ne, p1_s, true_and, and_true, Nat.le_refl, true_implies, forall_const, not_false_eq_true, false_implies, not_true_eq_false, reduceCtorEq, tl_s, tl_n, rf_s, List.cons_append, List.nil_append, true_or, or_true, p0, p1.c, st.c]
        refine b_ne (by omega) (by omega) (fun cc => ?_) (fun cc => absurd cc (by omega))
        refine B_Pens_isInside_28 ?_
        simp only [wp_cons, wp_nil, List.getElem?_cons_zero, List.getElem?_cons_succ, List.set_cons_zero, List.set_cons_succ, s_aload, ldA_r, ldA_n, ldA_s, s_getfield, pR_s, ob_s, gt_s, s_ifCond_ne, p1_s, true_and, and_true, Nat.le_refl, true_implies, forall_const, not_false_eq_true, false_implies, not_true_eq_false, reduceCtorEq, tl_s, tl_n, rf_s, List.cons_append, List.nil_append, true_or, or_true, p0, p1.c, st.c]
        refine b_ne (by omega) (by omega) (fun cc => absurd cc (by omega)) (fun cc => ?_)
        refine B_Pens_isInside_36 ?_
        simp only [wp_cons, wp_nil, List.getElem?_cons_zero, List.getElem?_cons_succ, List.set_cons_zero, List.set_cons_succ, s_bipush, s_ireturn, p1_s, rI_i, rI_z, rI_c, z_01, z_11, rt_Pens_isInside, true_and, and_true, Nat.le_refl, true_implies, forall_const, not_false_eq_true, false_implies, not_true_eq_false, reduceCtorEq, tl_s, tl_n, rf_s, List.cons_append, List.nil_append, true_or, or_true, p0, p1.c, st.c]
        exact hQ
      | true =>
        rw [if_neg (by rw [z]; decide)] at hQ
        have hz1 : sz (sg Ss i).2 = 1 := by rw [z]; rfl
        refine B_Pens_isInside_22 ?_
        simp only [wp_cons, wp_nil, List.getElem?_cons_zero, List.getElem?_cons_succ, List.set_cons_zero, List.set_cons_succ, s_ifCond_ne, p1_s, true_and, and_true, Nat.le_refl, true_implies, forall_const, not_false_eq_true, false_implies, not_true_eq_false, reduceCtorEq, tl_s, tl_n, rf_s, List.cons_append, List.nil_append, true_or, or_true, p0, p1.c, st.c]
        refine b_ne (by omega) (by omega) (fun cc => ?_) (fun cc => absurd cc (by omega))
        refine B_Pens_isInside_28 ?_
        simp only [wp_cons, wp_nil, List.getElem?_cons_zero, List.getElem?_cons_succ, List.set_cons_zero, List.set_cons_succ, s_aload, ldA_r, ldA_n, ldA_s, s_getfield, pR_s, ob_s, gt_s, s_ifCond_ne, p1_s, true_and, and_true, Nat.le_refl, true_implies, forall_const, not_false_eq_true, false_implies, not_true_eq_false, reduceCtorEq, tl_s, tl_n, rf_s, List.cons_append, List.nil_append, true_or, or_true, p0, p1.c, st.c]
        refine b_ne (by omega) (by omega) (fun cc => ?_) (fun cc => absurd cc (by omega))
        refine B_Pens_isInside_39 ?_
        simp only [wp_cons, wp_nil, List.getElem?_cons_zero, List.getElem?_cons_succ, List.set_cons_zero, List.set_cons_succ, s_aload, ldA_r, ldA_n, ldA_s, s_iload_n2, ldI_s, s_iload_n3, s_invokestatic, rc_s, ob_s, List.drop_succ_cons, List.drop_zero, List.take_succ_cons, List.take_zero, List.reverse_cons, List.reverse_nil, List.nil_append, List.cons_append, List.length_cons, List.length_nil, Nat.reduceEqDiff, eq_self, reduceIte, p1_s, p2_s, l1_s, d1, Int.reduceToNat, Nat.reduceAdd, Nat.reduceLeDiff, true_and, and_true, Nat.le_refl, true_implies, forall_const, not_false_eq_true, false_implies, not_true_eq_false, reduceCtorEq, tl_s, tl_n, rf_s, true_or, or_true, p0, p1.c, st.c]
        refine Measures_ins_c (by omega) st (by have := hw.1; omega) hw.2.2.1 ⟨c2.1, c2.2.1⟩ c2.2.2 ?_
        by_cases c3 : insS (sg Ss i) x y % 2 = 0
        · rw [c3] at hQ ⊢
          refine B_Pens_isInside_46 ?_
          simp only [wp_cons, wp_nil, List.getElem?_cons_zero, List.getElem?_cons_succ, List.set_cons_zero, List.set_cons_succ, s_ifCond_eq, p1_s, true_and, and_true, Nat.le_refl, true_implies, forall_const, not_false_eq_true, false_implies, not_true_eq_false, reduceCtorEq, tl_s, tl_n, rf_s, List.cons_append, List.nil_append, true_or, or_true, p0, p1.c, st.c]
          refine B_Pens_isInside_53 ?_
          simp only [wp_cons, wp_nil, List.getElem?_cons_zero, List.getElem?_cons_succ, List.set_cons_zero, List.set_cons_succ, s_iconst, true_and, and_true, Nat.le_refl, true_implies, forall_const, not_false_eq_true, false_implies, not_true_eq_false, reduceCtorEq, tl_s, tl_n, rf_s, List.cons_append, List.nil_append, true_or, or_true, p0, p1.c, st.c]
          refine B_Pens_isInside_54 ?_
          simp only [wp_cons, wp_nil, List.getElem?_cons_zero, List.getElem?_cons_succ, List.set_cons_zero, List.set_cons_succ, s_ireturn, p1_s, rI_i, rI_z, rI_c, z_01, z_11, rt_Pens_isInside, true_and, and_true, Nat.le_refl, true_implies, forall_const, not_false_eq_true, false_implies, not_true_eq_false, reduceCtorEq, tl_s, tl_n, rf_s, List.cons_append, List.nil_append, true_or, or_true, p0, p1.c, st.c]
          exact hQ
        · have c4 : insS (sg Ss i) x y % 2 = 1 := by omega
          rw [c4] at hQ ⊢
          refine B_Pens_isInside_46 ?_
          simp only [wp_cons, wp_nil, List.getElem?_cons_zero, List.getElem?_cons_succ, List.set_cons_zero, List.set_cons_succ, s_ifCond_eq, p1_s, true_and, and_true, Nat.le_refl, true_implies, forall_const, not_false_eq_true, false_implies, not_true_eq_false, reduceCtorEq, tl_s, tl_n, rf_s, List.cons_append, List.nil_append, true_or, or_true, p0, p1.c, st.c]
          refine b_eq (by omega) (by omega) (fun cc => absurd cc (by omega)) (fun cc => ?_)
          refine B_Pens_isInside_49 ?_
          simp only [wp_cons, wp_nil, List.getElem?_cons_zero, List.getElem?_cons_succ, List.set_cons_zero, List.set_cons_succ, s_iconst, s_goto, true_and, and_true, Nat.le_refl, true_implies, forall_const, not_false_eq_true, false_implies, not_true_eq_false, reduceCtorEq, tl_s, tl_n, rf_s, List.cons_append, List.nil_append, true_or, or_true, p0, p1.c, st.c]
          refine B_Pens_isInside_54 ?_
          simp only [wp_cons, wp_nil, List.getElem?_cons_zero, List.getElem?_cons_succ, List.set_cons_zero, List.set_cons_succ, s_ireturn, p1_s, rI_i, rI_z, rI_c, z_01, z_11, rt_Pens_isInside, true_and, and_true, Nat.le_refl, true_implies, forall_const, not_false_eq_true, false_implies, not_true_eq_false, reduceCtorEq, tl_s, tl_n, rf_s, List.cons_append, List.nil_append, true_or, or_true, p0, p1.c, st.c]
          exact hQ
    · rw [if_pos c2] at hQ
      rw [if_neg (show ¬ (0 ≤ x ∧ x ≤ 999 ∧ 0 ≤ y ∧ y ≤ 999) from c2)]
      refine B_Pens_isInside_22 ?_
      simp only [wp_cons, wp_nil, List.getElem?_cons_zero, List.getElem?_cons_succ, List.set_cons_zero, List.set_cons_succ, s_ifCond_ne, p1_s, true_and, and_true, Nat.le_refl, true_implies, forall_const, not_false_eq_true, false_implies, not_true_eq_false, reduceCtorEq, tl_s, tl_n, rf_s, List.cons_append, List.nil_append, true_or, or_true, p0, p1.c, st.c]
      refine B_Pens_isInside_25 ?_
      simp only [wp_cons, wp_nil, List.getElem?_cons_zero, List.getElem?_cons_succ, List.set_cons_zero, List.set_cons_succ, s_bipush, s_ireturn, p1_s, rI_i, rI_z, rI_c, z_01, z_11, rt_Pens_isInside, true_and, and_true, Nat.le_refl, true_implies, forall_const, not_false_eq_true, false_implies, not_true_eq_false, reduceCtorEq, tl_s, tl_n, rf_s, List.cons_append, List.nil_append, true_or, or_true, p0, p1.c, st.c]
      exact hQ
  · rw [if_pos c1] at hQ
    refine Drawing_find_n p1 hs (by omega) ?_
    refine B_Pens_isInside_8 ?_
    simp only [wp_cons, wp_nil, List.getElem?_cons_zero, List.getElem?_cons_succ, List.set_cons_zero, List.set_cons_succ, s_astore, pA_r, pA_n, s1_0, s1_s, kx_i, kx_r, kx_s, kx_n, kx_l, kx_0, s_aload, ldA_r, ldA_n, ldA_s, s_ifnonnull, true_and, and_true, Nat.le_refl, true_implies, forall_const, not_false_eq_true, false_implies, not_true_eq_false, reduceCtorEq, tl_s, tl_n, rf_s, List.cons_append, List.nil_append, true_or, or_true, p0, p1.c]
    refine B_Pens_isInside_15 ?_
    simp only [wp_cons, wp_nil, List.getElem?_cons_zero, List.getElem?_cons_succ, List.set_cons_zero, List.set_cons_succ, s_iconst, s_ireturn, p1_s, rI_i, rI_z, rI_c, z_01, z_11, rt_Pens_isInside, true_and, and_true, Nat.le_refl, true_implies, forall_const, not_false_eq_true, false_implies, not_true_eq_false, reduceCtorEq, tl_s, tl_n, rf_s, List.cons_append, List.nil_append, true_or, or_true, p0, p1.c]
    exact hQ
theorem Pens_ifs_c {d P : Nat} (hd : 8 ≤ d) {W : Wd} {s t : Int} {h : g_H} {Q : g_Po} (w : wfW W) (hp : pens h P W) (hs : i32 s) (ht : i32 t) (hQ : PQ P h Q (sp_ifs W s t)) : Call Pens_ifSimplified d 0 0 [.ref P, .int (I s), .int (I t)] h Q := by
  have d1 : 1 ≤ d := by omega
  obtain ⟨⟨Ss, pn⟩, Hs, T, l⟩ := W
  obtain ⟨σ, hp⟩ := hp
  obtain ⟨p0, p1, p2, p3, p4, p5, p6, p7⟩ := hp.g
  have hlen : Ss.length ≤ 10 := p1.len
  unfold sp_ifs at hQ
  dsimp only at hQ
  refine Call.intro (by rfl) (Nat.le_of_ble_eq_true rfl) ?_
  refine G.eqL (L := [some (.ref _), some (.int _), some (.int _), none]) rfl ?_
  refine B_Pens_ifSimplified_0 ?_
  simp only [wp_cons, wp_nil, List.getElem?_cons_zero, List.getElem?_cons_succ, List.set_cons_zero, List.set_cons_succ, s_aload_n0, ldA_r, ldA_n, ldA_s, s_getfield, pR_s, ob_s, gt_s, s_iload_n1, ldI_s, s_invokevirtual, rc_s, List.drop_succ_cons, List.drop_zero, List.take_succ_cons, List.take_zero, List.reverse_cons, List.reverse_nil, List.nil_append, List.cons_append, List.length_cons, List.length_nil, d1, Int.reduceToNat, Nat.reduceAdd, Nat.reduceLeDiff, true_and, and_true, Nat.le_refl, true_implies, forall_const, not_false_eq_true, false_implies, not_true_eq_false, reduceCtorEq, tl_s, tl_n, rf_s, true_or, or_true, p0, p1.c]
  by_cases c1 : inS Ss s
  · rw [if_neg (fun q => q c1)] at hQ
    obtain ⟨i, rfl, hi⟩ := nat_of c1
    rw [tn_i] at hQ
    refine Drawing_find_c p1 hi ?_
    by_cases c2 : 0 ≤ t ∧ t ≤ 200
    · rw [if_neg (fun q => q c2)] at hQ
      have sl := p1.sl (i := i) (by omega)
      have st := p1.st hi
      have ws := w.g.1.2 i hi
      refine B_Pens_ifSimplified_8 ?_
      simp only [wp_cons, wp_nil, List.getElem?_cons_zero, List.getElem?_cons_succ, List.set_cons_zero, List.set_cons_succ, s_astore_n3, pA_r, pA_n, s1_0, s1_s, kx_i, kx_r, kx_s, kx_n, kx_l, kx_0, s_aload_n3, ldA_r, ldA_n, ldA_s, s_ifnonnull, true_and, and_true, Nat.le_refl, true_implies, forall_const, not_false_eq_true, false_implies, not_true_eq_false, reduceCtorEq, tl_s, tl_n, rf_s, List.cons_append, List.nil_append, true_or, or_true, p0, p1.c, p5.c]
      refine B_Pens_ifSimplified_15 ?_
      simp only [wp_cons, wp_nil, List.getElem?_cons_zero, List.getElem?_cons_succ, List.set_cons_zero, List.set_cons_succ, s_iload_n2, ldI_s, s_ifCond_lt, p1_s, true_and, and_true, Nat.le_refl, true_implies, forall_const, not_false_eq_true, false_implies, not_true_eq_false, reduceCtorEq, tl_s, tl_n, rf_s, List.cons_append, List.nil_append, true_or, or_true, p0, p1.c, p5.c]
      refine b_lt (by omega) (by omega) (fun cc => absurd cc (by omega)) (fun cc => ?_)
      refine B_Pens_ifSimplified_19 ?_
      simp only [wp_cons, wp_nil, List.getElem?_cons_zero, List.getElem?_cons_succ, List.set_cons_zero, List.set_cons_succ, s_iload_n2, ldI_s, s_sipush, s_if_icmp_le, p2_s, true_and, and_true, Nat.le_refl, true_implies, forall_const, not_false_eq_true, false_implies, not_true_eq_false, reduceCtorEq, tl_s, tl_n, rf_s, List.cons_append, List.nil_append, true_or, or_true, p0, p1.c, p5.c]
      refine b_le (by omega) (by omega) (fun cc => ?_) (fun cc => absurd cc (by omega))
      refine B_Pens_ifSimplified_29 ?_
      simp only [wp_cons, wp_nil, List.getElem?_cons_zero, List.getElem?_cons_succ, List.set_cons_zero, List.set_cons_succ, s_aload_n0, ldA_r, ldA_n, ldA_s, s_getfield, pR_s, ob_s, gt_s, s_aload_n3, s_invokevirtual, rc_s, List.drop_succ_cons, List.drop_zero, List.take_succ_cons, List.take_zero, List.reverse_cons, List.reverse_nil, List.nil_append, List.cons_append, List.length_cons, List.length_nil, d1, Int.reduceToNat, Nat.reduceAdd, Nat.reduceLeDiff, true_and, and_true, Nat.le_refl, true_implies, forall_const, not_false_eq_true, false_implies, not_true_eq_false, reduceCtorEq, tl_s, tl_n, rf_s, true_or, or_true, p0, p1.c, p5.c]
      refine Thn_measure_c (by omega) ws (by omega) st p5 (fun h2 g2 c2' t2 e2 => ?_)
      have hp2 := hp.th c2' ⟨g2, t2⟩
      obtain ⟨p0, p1, p2, p3, p4, p5, p6, p7⟩ := hp2.g
      have st := p1.st hi
      refine B_Pens_ifSimplified_37 ?_
      simp only [wp_cons, wp_nil, List.getElem?_cons_zero, List.getElem?_cons_succ, List.set_cons_zero, List.set_cons_succ, s_aload_n0, ldA_r, ldA_n, ldA_s, s_getfield, pR_s, ob_s, gt_s, s_aload_n3, s_iload_n2, ldI_s, s_invokevirtual, rc_s, List.drop_succ_cons, List.drop_zero, List.take_succ_cons, List.take_zero, List.reverse_cons, List.reverse_nil, List.nil_append, List.cons_append, List.length_cons, List.length_nil, d1, Int.reduceToNat, Nat.reduceAdd, Nat.reduceLeDiff, true_and, and_true, Nat.le_refl, true_implies, forall_const, not_false_eq_true, false_implies, not_true_eq_false, reduceCtorEq, tl_s, tl_n, rf_s, true_or, or_true, p0, p1.c, t2.c]
      refine Thn_thin_c (by omega) ws (by omega) (by omega) st t2 p3 e2 c2 (fun h3 c3' b3 => ?_)
      have hp3 := hp2.sp c3' b3.x
      obtain ⟨p0, p1, p2, p3, p4, p5, p6, p7⟩ := hp3.g
      refine B_Pens_ifSimplified_50 ?_
      simp only [wp_cons, wp_nil, List.getElem?_cons_zero, List.getElem?_cons_succ, List.set_cons_zero, List.set_cons_succ, s_aload_n0, ldA_r, ldA_n, ldA_s, s_getfield, pR_s, ob_s, gt_s, s_ireturn, p1_s, rI_i, rI_z, rI_c, z_01, z_11, rt_Pens_ifSimplified, true_and, and_true, Nat.le_refl, true_implies, forall_const, not_false_eq_true, false_implies, not_true_eq_false, reduceCtorEq, tl_s, tl_n, rf_s, List.cons_append, List.nil_append, true_or, or_true, p0, b3.c]
      exact hQ h3 ((c2'.wd (by omega) (by omega)).tr (c3'.wd (by omega) (by omega))) ⟨σ, hp3⟩
    · rw [if_pos c2] at hQ
      by_cases c3 : t < 0
      · refine B_Pens_ifSimplified_8 ?_
        simp only [wp_cons, wp_nil, List.getElem?_cons_zero, List.getElem?_cons_succ, List.set_cons_zero, List.set_cons_succ, s_astore_n3, pA_r, pA_n, s1_0, s1_s, kx_i, kx_r, kx_s, kx_n, kx_l, kx_0, s_aload_n3, ldA_r, ldA_n, ldA_s, s_ifnonnull, true_and, and_true, Nat.le_refl, true_implies, forall_const, not_false_eq_true, false_implies, not_true_eq_false, reduceCtorEq, tl_s, tl_n, rf_s, List.cons_append, List.nil_append, true_or, or_true, p0, p1.c]
        refine B_Pens_ifSimplified_15 ?_
        simp only [wp_cons, wp_nil, List.getElem?_cons_zero, List.getElem?_cons_succ, List.set_cons_zero, List.set_cons_succ, s_iload_n2, ldI_s, s_ifCond_lt, p1_s, true_and, and_true, Nat.le_refl, true_implies, forall_const, not_false_eq_true, false_implies, not_true_eq_false, reduceCtorEq, tl_s, tl_n, rf_s, List.cons_append, List.nil_append, true_or, or_true, p0, p1.c]
        refine b_lt (by omega) (by omega) (fun cc => ?_) (fun cc => absurd cc (by omega))
        refine B_Pens_ifSimplified_26 ?_
        simp only [wp_cons, wp_nil, List.getElem?_cons_zero, List.getElem?_cons_succ, List.set_cons_zero, List.set_cons_succ, s_bipush, s_ireturn, p1_s, rI_i, rI_z, rI_c, z_01, z_11, rt_Pens_ifSimplified, true_and, and_true, Nat.le_refl, true_implies, forall_const, not_false_eq_true, false_implies, not_true_eq_false, reduceCtorEq, tl_s, tl_n, rf_s, List.cons_append, List.nil_append, true_or, or_true, p0, p1.c]
        exact hQ h chg.rf ⟨σ, hp⟩
      · refine B_Pens_ifSimplified_8 ?_
        simp only [wp_cons, wp_nil, List.getElem?_cons_zero, List.getElem?_cons_succ, List.set_cons_zero, List.set_cons_succ, s_astore_n3, pA_r, pA_n, s1_0, s1_s, kx_i, kx_r, kx_s, kx_n, kx_l, kx_0, s_aload_n3, ldA_r, ldA_n, ldA_s, s_ifnonnull, true_and, and_true, Nat.le_refl, true_implies, forall_const, not_false_eq_true, false_implies, not_true_eq_false, reduceCtorEq, tl_s, tl_n, rf_s, List.cons_append, List.nil_append, true_or, or_true, p0, p1.c]
        refine B_Pens_ifSimplified_15 ?_
        simp only [wp_cons, wp_nil, List.getElem?_cons_zero, List.getElem?_cons_succ, List.set_cons_zero, List.set_cons_succ, s_iload_n2, ldI_s, s_ifCond_lt, p1_s, true_and, and_true, Nat.le_refl, true_implies, forall_const, not_false_eq_true, false_implies, not_true_eq_false, reduceCtorEq, tl_s, tl_n, rf_s, List.cons_append, List.nil_append, true_or, or_true, p0, p1.c]
        refine b_lt (by omega) (by omega) (fun cc => absurd cc (by omega)) (fun cc => ?_)
        refine B_Pens_ifSimplified_19 ?_
        simp only [wp_cons, wp_nil, List.getElem?_cons_zero, List.getElem?_cons_succ, List.set_cons_zero, List.set_cons_succ, s_iload_n2, ldI_s, s_sipush, s_if_icmp_le, p2_s, true_and, and_true, Nat.le_refl, true_implies, forall_const, not_false_eq_true, false_implies, not_true_eq_false, reduceCtorEq, tl_s, tl_n, rf_s, List.cons_append, List.nil_append, true_or, or_true, p0, p1.c]
        refine b_le (by omega) (by omega) (fun cc => absurd cc (by omega)) (fun cc => ?_)
        refine B_Pens_ifSimplified_26 ?_
        simp only [wp_cons, wp_nil, List.getElem?_cons_zero, List.getElem?_cons_succ, List.set_cons_zero, List.set_cons_succ, s_bipush, s_ireturn, p1_s, rI_i, rI_z, rI_c, z_01, z_11, rt_Pens_ifSimplified, true_and, and_true, Nat.le_refl, true_implies, forall_const, not_false_eq_true, false_implies, not_true_eq_false, reduceCtorEq, tl_s, tl_n, rf_s, List.cons_append, List.nil_append, true_or, or_true, p0, p1.c]
        exact hQ h chg.rf ⟨σ, hp⟩
  · rw [if_pos c1] at hQ
    refine Drawing_find_n p1 hs (by omega) ?_
    refine B_Pens_ifSimplified_8 ?_
    simp only [wp_cons, wp_nil, List.getElem?_cons_zero, List.getElem?_cons_succ, List.set_cons_zero, List.set_cons_succ, s_astore_n3, pA_r, pA_n, s1_0, s1_s, kx_i, kx_r, kx_s, kx_n, kx_l, kx_0, s_aload_n3, ldA_r, ldA_n, ldA_s, s_ifnonnull, true_and, and_true, Nat.le_refl, true_implies, forall_const, not_false_eq_true, false_implies, not_true_eq_false, reduceCtorEq, tl_s, tl_n, rf_s, List.cons_append, List.nil_append, true_or, or_true, p0, p1.c]
    refine B_Pens_ifSimplified_13 ?_
    simp only [wp_cons, wp_nil, List.getElem?_cons_zero, List.getElem?_cons_succ, List.set_cons_zero, List.set_cons_succ, s_iconst, s_ireturn, p1_s, rI_i, rI_z, rI_c, z_01, z_11, rt_Pens_ifSimplified, true_and, and_true, Nat.le_refl, true_implies, forall_const, not_false_eq_true, false_implies, not_true_eq_false, reduceCtorEq, tl_s, tl_n, rf_s, List.cons_append, List.nil_append, true_or, or_true, p0, p1.c]
    exact hQ h chg.rf ⟨σ, hp⟩
theorem smpS_len {S : Stk} (w : wfS S) (t : Int) : (smpS S t).1.length ≤ 30 := by
  unfold smpS
  split
  · exact w.2.1
  · have := pick_len (fun i => decide (t ≤ levS S i)) S.1 S.1.length
    have := w.2.1
    show (picS S t).length ≤ 30
    unfold picS
    omega
set_option maxHeartbeats 8000000 in
theorem Pens_tol_c {d P : Nat} (hd : 8 ≤ d) {W : Wd} {s n : Int} {h : g_H} {Q : g_Po} (w : wfW W) (hp : pens h P W) (hs : i32 s) (hn : i32 n) (hQ : PQ P h Q (sp_tol W s n)) : Call Pens_toleranceFor d 0 0 [.ref P, .int (I s), .int (I n)] h Q := by
  have d1 : 1 ≤ d := by omega
  obtain ⟨⟨Ss, pn⟩, Hs, T, l⟩ := W
  obtain ⟨σ, hp⟩ := hp
  obtain ⟨p0, p1, p2, p3, p4, p5, p6, p7⟩ := hp.g
  have hlen : Ss.length ≤ 10 := p1.len
  unfold sp_tol at hQ
  dsimp only at hQ
  refine Call.intro (by rfl) (Nat.le_of_ble_eq_true rfl) ?_
  refine G.eqL (L := [some (.ref _), some (.int _), some (.int _), none, none]) rfl ?_
  refine B_Pens_toleranceFor_0 ?_
  simp only [wp_cons, wp_nil, List.getElem?_cons_zero, List.getElem?_cons_succ, List.set_cons_zero, List.set_cons_succ, s_aload_n0, ldA_r, ldA_n, ldA_s, s_getfield, pR_s, ob_s, gt_s, s_iload_n1, ldI_s, s_invokevirtual, rc_s, List.drop_succ_cons, List.drop_zero, List.take_succ_cons, List.take_zero, List.reverse_cons, List.reverse_nil, List.nil_append, List.cons_append, List.length_cons, List.length_nil, d1, Int.reduceToNat, Nat.reduceAdd, Nat.reduceLeDiff, true_and, and_true, Nat.le_refl, true_implies, forall_const, not_false_eq_true, false_implies, not_true_eq_false, reduceCtorEq, tl_s, tl_n, rf_s, true_or, or_true, p0, p1.c]
  by_cases c1 : inS Ss s
  · rw [if_neg (fun q => q c1)] at hQ
    obtain ⟨i, rfl, hi⟩ := nat_of c1
    rw [tn_i] at hQ
    refine Drawing_find_c p1 hi ?_
    by_cases c2 : 2 ≤ n ∧ n ≤ 30
    · rw [if_neg (fun q => q c2)] at hQ
      have sl := p1.sl (i := i) (by omega)
      have st := p1.st hi
      have ws := w.g.1.2 i hi
      refine B_Pens_toleranceFor_8 ?_
      simp only [wp_cons, wp_nil, List.getElem?_cons_zero, List.getElem?_cons_succ, List.set_cons_zero, List.set_cons_succ, s_astore_n3, pA_r, pA_n, s1_0, s1_s, kx_i, kx_r, kx_s, kx_n, kx_l, kx_0, s_aload_n3, ldA_r, ldA_n, ldA_s, s_ifnonnull, true_and, and_true, Nat.le_refl, true_implies, forall_const, not_false_eq_true, false_implies, not_true_eq_false, reduceCtorEq, tl_s, tl_n, rf_s, List.cons_append, List.nil_append, true_or, or_true, p0, p1.c, p5.c]
      refine B_Pens_toleranceFor_15 ?_
      simp only [wp_cons, wp_nil, List.getElem?_cons_zero, List.getElem?_cons_succ, List.set_cons_zero, List.set_cons_succ, s_iload_n2, ldI_s, s_iconst, s_if_icmp_lt, p2_s, true_and, and_true, Nat.le_refl, true_implies, forall_const, not_false_eq_true, false_implies, not_true_eq_false, reduceCtorEq, tl_s, tl_n, rf_s, List.cons_append, List.nil_append, true_or, or_true, p0, p1.c, p5.c]
      refine b_lt (by omega) (by omega) (fun cc => absurd cc (by omega)) (fun cc => ?_)
      refine B_Pens_toleranceFor_20 ?_
      simp only [wp_cons, wp_nil, List.getElem?_cons_zero, List.getElem?_cons_succ, List.set_cons_zero, List.set_cons_succ, s_iload_n2, ldI_s, s_bipush, s_if_icmp_le, p2_s, true_and, and_true, Nat.le_refl, true_implies, forall_const, not_false_eq_true, false_implies, not_true_eq_false, reduceCtorEq, tl_s, tl_n, rf_s, List.cons_append, List.nil_append, true_or, or_true, p0, p1.c, p5.c]
      refine b_le (by omega) (by omega) (fun cc => ?_) (fun cc => absurd cc (by omega))
      refine B_Pens_toleranceFor_29 ?_
      simp only [wp_cons, wp_nil, List.getElem?_cons_zero, List.getElem?_cons_succ, List.set_cons_zero, List.set_cons_succ, s_aload_n0, ldA_r, ldA_n, ldA_s, s_getfield, pR_s, ob_s, gt_s, s_aload_n3, s_invokevirtual, rc_s, List.drop_succ_cons, List.drop_zero, List.take_succ_cons, List.take_zero, List.reverse_cons, List.reverse_nil, List.nil_append, List.cons_append, List.length_cons, List.length_nil, d1, Int.reduceToNat, Nat.reduceAdd, Nat.reduceLeDiff, true_and, and_true, Nat.le_refl, true_implies, forall_const, not_false_eq_true, false_implies, not_true_eq_false, reduceCtorEq, tl_s, tl_n, rf_s, true_or, or_true, p0, p1.c, p5.c]
      refine Thn_measure_c (by omega) ws (by omega) st p5 (fun h2 g2 c2' t2 e2 => ?_)
      have hp2 := hp.th c2' ⟨g2, t2⟩
      have loop : ∀ (m k : Nat) (h3 : g_H), k + m = 201 → chg (P + 49) (P + 51) h2 h3 → stX h3 (P + 49) → tolf (sg Ss i) n m k = tolf (sg Ss i) n 201 0 → G Pens_toleranceFor d 0 0 0 0 40 [some (.ref P), some (.int (I (i : Int))), some (.int (I n)), some (.ref (σ i)), some (.int (I (k : Int)))] [] h3 Q := by
        intro m
        induction m with
        | zero =>
          intro k h3 hk hc hx ht
          have hp3 := hp2.sp hc hx
          obtain rfl : k = 201 := by omega
          rw [← ht] at hQ
          refine B_Pens_toleranceFor_40 ?_
          simp only [wp_cons, wp_nil, List.getElem?_cons_zero, List.getElem?_cons_succ, List.set_cons_zero, List.set_cons_succ, s_iload, ldI_s, s_sipush, s_if_icmp_gt, p2_s, true_and, and_true, Nat.le_refl, true_implies, forall_const, not_false_eq_true, false_implies, not_true_eq_false, reduceCtorEq, tl_s, tl_n, rf_s, List.cons_append, List.nil_append, true_or, or_true, p0, p1.c, p5.c]
          refine b_lt (by omega) (by omega) (fun cc => ?_) (fun cc => absurd cc (by omega))
          refine B_Pens_toleranceFor_82 ?_
          simp only [wp_cons, wp_nil, List.getElem?_cons_zero, List.getElem?_cons_succ, List.set_cons_zero, List.set_cons_succ, s_bipush, s_ireturn, p1_s, rI_i, rI_z, rI_c, z_01, z_11, rt_Pens_toleranceFor, true_and, and_true, Nat.le_refl, true_implies, forall_const, not_false_eq_true, false_implies, not_true_eq_false, reduceCtorEq, tl_s, tl_n, rf_s, List.cons_append, List.nil_append, true_or, or_true, p0, p1.c, p5.c]
          exact hQ h3 ((c2'.wd (by omega) (by omega)).tr (hc.wd (by omega) (by omega))) ⟨σ, hp3⟩
        | succ m ih =>
          intro k h3 hk hc hx ht
          have hp3 := hp2.sp hc hx
          obtain ⟨p0, p1, p2, p3, p4, p5, p6, p7⟩ := hp3.g
          have t3 := t2.kp hc (by omega)
          have st := p1.st hi
          have hl := smpS_len ws (k : Int)
          refine B_Pens_toleranceFor_40 ?_
          simp only [wp_cons, wp_nil, List.getElem?_cons_zero, List.getElem?_cons_succ, List.set_cons_zero, List.set_cons_succ, s_iload, ldI_s, s_sipush, s_if_icmp_gt, p2_s, true_and, and_true, Nat.le_refl, true_implies, forall_const, not_false_eq_true, false_implies, not_true_eq_false, reduceCtorEq, tl_s, tl_n, rf_s, List.cons_append, List.nil_append, true_or, or_true, p0, p1.c, t3.c]
          refine b_lt (by omega) (by omega) (fun cc => absurd cc (by omega)) (fun cc => ?_)
          refine B_Pens_toleranceFor_48 ?_
          simp only [wp_cons, wp_nil, List.getElem?_cons_zero, List.getElem?_cons_succ, List.set_cons_zero, List.set_cons_succ, s_aload_n0, ldA_r, ldA_n, ldA_s, s_getfield, pR_s, ob_s, gt_s, s_aload_n3, s_iload, ldI_s, s_invokevirtual, rc_s, List.drop_succ_cons, List.drop_zero, List.take_succ_cons, List.take_zero, List.reverse_cons, List.reverse_nil, List.nil_append, List.cons_append, List.length_cons, List.length_nil, d1, Int.reduceToNat, Nat.reduceAdd, Nat.reduceLeDiff, true_and, and_true, Nat.le_refl, true_implies, forall_const, not_false_eq_true, false_implies, not_true_eq_false, reduceCtorEq, tl_s, tl_n, rf_s, true_or, or_true, p0, p1.c, t3.c]
          refine Thn_thin_c (by omega) ws (by omega) (by omega) st t3 p3 e2 (by omega) (fun h4 c4' b4 => ?_)
          have hp4 := hp3.sp c4' b4.x
          obtain ⟨p0, p1, p2, p3, p4, p5, p6, p7⟩ := hp4.g
          rw [show tolf (sg Ss i) n (m + 1) k = if ((smpS (sg Ss i) (k : Int)).1.length : Int) ≤ n then (k : Int) else tolf (sg Ss i) n m (k + 1) from rfl] at ht
          by_cases c5 : ((smpS (sg Ss i) (k : Int)).1.length : Int) ≤ n
          · rw [if_pos c5] at ht
            rw [← ht] at hQ
            refine B_Pens_toleranceFor_62 ?_
            simp only [wp_cons, wp_nil, List.getElem?_cons_zero, List.getElem?_cons_succ, List.set_cons_zero, List.set_cons_succ, s_aload_n0, ldA_r, ldA_n, ldA_s, s_getfield, pR_s, ob_s, gt_s, s_iload_n2, ldI_s, s_if_icmp_gt, p2_s, true_and, and_true, Nat.le_refl, true_implies, forall_const, not_false_eq_true, false_implies, not_true_eq_false, reduceCtorEq, tl_s, tl_n, rf_s, List.cons_append, List.nil_append, true_or, or_true, p0, b4.c]
            refine b_lt (by omega) (by omega) (fun cc => absurd cc (by omega)) (fun cc => ?_)
            refine B_Pens_toleranceFor_73 ?_
            simp only [wp_cons, wp_nil, List.getElem?_cons_zero, List.getElem?_cons_succ, List.set_cons_zero, List.set_cons_succ, s_iload, ldI_s, s_ireturn, p1_s, rI_i, rI_z, rI_c, z_01, z_11, rt_Pens_toleranceFor, true_and, and_true, Nat.le_refl, true_implies, forall_const, not_false_eq_true, false_implies, not_true_eq_false, reduceCtorEq, tl_s, tl_n, rf_s, List.cons_append, List.nil_append, true_or, or_true, p0, b4.c]
            exact hQ h4 (((c2'.wd (by omega) (by omega)).tr (hc.wd (by omega) (by omega))).tr (c4'.wd (by omega) (by omega))) ⟨σ, hp4⟩
          · rw [if_neg c5] at ht
            refine B_Pens_toleranceFor_62 ?_
            simp only [wp_cons, wp_nil, List.getElem?_cons_zero, List.getElem?_cons_succ, List.set_cons_zero, List.set_cons_succ, s_aload_n0, ldA_r, ldA_n, ldA_s, s_getfield, pR_s, ob_s, gt_s, s_iload_n2, ldI_s, s_if_icmp_gt, p2_s, true_and, and_true, Nat.le_refl, true_implies, forall_const, not_false_eq_true, false_implies, not_true_eq_false, reduceCtorEq, tl_s, tl_n, rf_s, List.cons_append, List.nil_append, true_or, or_true, p0, b4.c]
            refine b_lt (by omega) (by omega) (fun cc => ?_) (fun cc => absurd cc (by omega))
            refine B_Pens_toleranceFor_76 ?_
            simp only [wp_cons, wp_nil, List.getElem?_cons_zero, List.getElem?_cons_succ, List.set_cons_zero, List.set_cons_succ, s_iinc, ldI_s, s1_0, s1_s, kx_i, kx_r, kx_s, kx_n, kx_l, kx_0, I_add, s_goto, true_and, and_true, Nat.le_refl, true_implies, forall_const, not_false_eq_true, false_implies, not_true_eq_false, reduceCtorEq, tl_s, tl_n, rf_s, List.cons_append, List.nil_append, true_or, or_true, p0, b4.c]
            exact ih (k + 1) h4 (by omega) (hc.tr c4') b4.x ht
      refine B_Pens_toleranceFor_37 ?_
      simp only [wp_cons, wp_nil, List.getElem?_cons_zero, List.getElem?_cons_succ, List.set_cons_zero, List.set_cons_succ, s_iconst, s_istore, p1_s, s1_0, s1_s, kx_i, kx_r, kx_s, kx_n, kx_l, kx_0, true_and, and_true, Nat.le_refl, true_implies, forall_const, not_false_eq_true, false_implies, not_true_eq_false, reduceCtorEq, tl_s, tl_n, rf_s, List.cons_append, List.nil_append, true_or, or_true, p0, p1.c, p5.c]
      exact loop 201 0 h2 (by omega) chg.rf hp2.g.2.2.2.1 rfl
    · rw [if_pos c2] at hQ
      by_cases c3 : n < 2
      · refine B_Pens_toleranceFor_8 ?_
        simp only [wp_cons, wp_nil, List.getElem?_cons_zero, List.getElem?_cons_succ, List.set_cons_zero, List.set_cons_succ, s_astore_n3, pA_r, pA_n, s1_0, s1_s, kx_i, kx_r, kx_s, kx_n, kx_l, kx_0, s_aload_n3, ldA_r, ldA_n, ldA_s, s_ifnonnull, true_and, and_true, Nat.le_refl, true_implies, forall_const, not_false_eq_true, false_implies, not_true_eq_false, reduceCtorEq, tl_s, tl_n, rf_s, List.cons_append, List.nil_append, true_or, or_true, p0, p1.c]
        refine B_Pens_toleranceFor_15 ?_
        simp only [wp_cons, wp_nil, List.getElem?_cons_zero, List.getElem?_cons_succ, List.set_cons_zero, List.set_cons_succ, s_iload_n2, ldI_s, s_iconst, s_if_icmp_lt, p2_s, true_and, and_true, Nat.le_refl, true_implies, forall_const, not_false_eq_true, false_implies, not_true_eq_false, reduceCtorEq, tl_s, tl_n, rf_s, List.cons_append, List.nil_append, true_or, or_true, p0, p1.c]
        refine b_lt (by omega) (by omega) (fun cc => ?_) (fun cc => absurd cc (by omega))
        refine B_Pens_toleranceFor_26 ?_
        simp only [wp_cons, wp_nil, List.getElem?_cons_zero, List.getElem?_cons_succ, List.set_cons_zero, List.set_cons_succ, s_bipush, s_ireturn, p1_s, rI_i, rI_z, rI_c, z_01, z_11, rt_Pens_toleranceFor, true_and, and_true, Nat.le_refl, true_implies, forall_const, not_false_eq_true, false_implies, not_true_eq_false, reduceCtorEq, tl_s, tl_n, rf_s, List.cons_append, List.nil_append, true_or, or_true, p0, p1.c]
        exact hQ h chg.rf ⟨σ, hp⟩
      · refine B_Pens_toleranceFor_8 ?_
        simp only [wp_cons, wp_nil, List.getElem?_cons_zero, List.getElem?_cons_succ, List.set_cons_zero, List.set_cons_succ, s_astore_n3, pA_r, pA_n, s1_0, s1_s, kx_i, kx_r, kx_s, kx_n, kx_l, kx_0, s_aload_n3, ldA_r, ldA_n, ldA_s, s_ifnonnull, true_and, and_true, Nat.le_refl, true_implies, forall_const, not_false_eq_true, false_implies, not_true_eq_false, reduceCtorEq, tl_s, tl_n, rf_s, List.cons_append, List.nil_append, true_or, or_true, p0, p1.c]
        refine B_Pens_toleranceFor_15 ?_
        simp only [wp_cons, wp_nil, List.getElem?_cons_zero, List.getElem?_cons_succ, List.set_cons_zero, List.set_cons_succ, s_iload_n2, ldI_s, s_iconst, s_if_icmp_lt, p2_s, true_and, and_true, Nat.le_refl, true_implies, forall_const, not_false_eq_true, false_implies, not_true_eq_false, reduceCtorEq, tl_s, tl_n, rf_s, List.cons_append, List.nil_append, true_or, or_true, p0, p1.c]
        refine b_lt (by omega) (by omega) (fun cc => absurd cc (by omega)) (fun cc => ?_)
        refine B_Pens_toleranceFor_20 ?_
        simp only [wp_cons, wp_nil, List.getElem?_cons_zero, List.getElem?_cons_succ, List.set_cons_zero, List.set_cons_succ, s_iload_n2, ldI_s, s_bipush, s_if_icmp_le, p2_s, true_and, and_true, Nat.le_refl, true_implies, forall_const, not_false_eq_true, false_implies, not_true_eq_false, reduceCtorEq, tl_s, tl_n, rf_s, List.cons_append, List.nil_append, true_or, or_true, p0, p1.c]
        refine b_le (by omega) (by omega) (fun cc => absurd cc (by omega)) (fun cc => ?_)
        refine B_Pens_toleranceFor_26 ?_
        simp only [wp_cons, wp_nil, List.getElem?_cons_zero, List.getElem?_cons_succ, List.set_cons_zero, List.set_cons_succ, s_bipush, s_ireturn, p1_s, rI_i, rI_z, rI_c, z_01, z_11, rt_Pens_toleranceFor, true_and, and_true, Nat.le_refl, true_implies, forall_const, not_false_eq_true, false_implies, not_true_eq_false, reduceCtorEq, tl_s, tl_n, rf_s, List.cons_append, List.nil_append, true_or, or_true, p0, p1.c]
        exact hQ h chg.rf ⟨σ, hp⟩
  · rw [if_pos c1] at hQ
    refine Drawing_find_n p1 hs (by omega) ?_
    refine B_Pens_toleranceFor_8 ?_
    simp only [wp_cons, wp_nil, List.getElem?_cons_zero, List.getElem?_cons_succ, List.set_cons_zero, List.set_cons_succ, s_astore_n3, pA_r, pA_n, s1_0, s1_s, kx_i, kx_r, kx_s, kx_n, kx_l, kx_0, s_aload_n3, ldA_r, ldA_n, ldA_s, s_ifnonnull, true_and, and_true, Nat.le_refl, true_implies, forall_const, not_false_eq_true, false_implies, not_true_eq_false, reduceCtorEq, tl_s, tl_n, rf_s, List.cons_append, List.nil_append, true_or, or_true, p0, p1.c]
    refine B_Pens_toleranceFor_13 ?_
    simp only [wp_cons, wp_nil, List.getElem?_cons_zero, List.getElem?_cons_succ, List.set_cons_zero, List.set_cons_succ, s_iconst, s_ireturn, p1_s, rI_i, rI_z, rI_c, z_01, z_11, rt_Pens_toleranceFor, true_and, and_true, Nat.le_refl, true_implies, forall_const, not_false_eq_true, false_implies, not_true_eq_false, reduceCtorEq, tl_s, tl_n, rf_s, List.cons_append, List.nil_append, true_or, or_true, p0, p1.c]
    exact hQ h chg.rf ⟨σ, hp⟩
