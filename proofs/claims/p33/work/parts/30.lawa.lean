/-! ===== the law's little methods ===== -/
/-! blocks of Law_cell -/
theorem ml_Law_cell : (g_m Law_cell).2.2.1 = 2 := rfl
theorem rt_Law_cell : (g_m Law_cell).2.2.2.1 = (some .int) := rfl
theorem B_Law_cell_0 {d mc ms cs ss : Nat} {L : List (Option Value)} {st : List Value} {h : g_H} {Q : g_Po} (hw : g_wp Law_cell d mc ms Q 6 [(0, 1, 0, 0, 0, 0, .iload_n 1), (1, 1, 0, 0, 0, 0, .aload_n 0), (2, 1, 0, 0, 0, 0, .arraylength), (3, 3, 12, 0, 0, 0, .if_icmp .ge 9)] cs ss L st h) : G Law_cell d mc ms cs ss 0 L st h Q := G.run (by decide +kernel) hw
theorem B_Law_cell_6 {d mc ms cs ss : Nat} {L : List (Option Value)} {st : List Value} {h : g_H} {Q : g_Po} (hw : g_wp Law_cell d mc ms Q 12 [(6, 1, 0, 0, 0, 0, .aload_n 0), (7, 1, 0, 0, 0, 0, .iload_n 1), (8, 1, 0, 0, 0, 0, .iaload), (9, 3, 21, 0, 0, 0, .goto 12)] cs ss L st h) : G Law_cell d mc ms cs ss 6 L st h Q := G.run (by decide +kernel) hw
theorem B_Law_cell_12 {d mc ms cs ss : Nat} {L : List (Option Value)} {st : List Value} {h : g_H} {Q : g_Po} (hw : g_wp Law_cell d mc ms Q 21 [(12, 2, 0, 0, 2123, 1033861969, .ldc 7), (14, 1, 0, 0, 0, 0, .iload_n 1), (15, 1, 0, 0, 0, 1, .iconst 1), (16, 1, 0, 0, 0, 0, .iadd), (17, 1, 0, 0, 0, 0, .imul), (18, 2, 0, 0, 2124, 717809319, .ldc 8), (20, 1, 0, 0, 0, 0, .iadd)] cs ss L st h) : G Law_cell d mc ms cs ss 12 L st h Q := G.run (by decide +kernel) hw
theorem B_Law_cell_21 {d mc ms cs ss : Nat} {L : List (Option Value)} {st : List Value} {h : g_H} {Q : g_Po} (hw : g_wp Law_cell d mc ms Q 22 [(21, 1, 0, 0, 0, 0, .ireturn)] cs ss L st h) : G Law_cell d mc ms cs ss 21 L st h Q := G.run (by decide +kernel) hw
/-! blocks of Law_low -/
theorem ml_Law_low : (g_m Law_low).2.2.1 = 2 := rfl
theorem rt_Law_low : (g_m Law_low).2.2.2.1 = (some .int) := rfl
theorem B_Law_low_0 {d mc ms cs ss : Nat} {L : List (Option Value)} {st : List Value} {h : g_H} {Q : g_Po} (hw : g_wp Law_low d mc ms Q 7 [(0, 1, 0, 0, 0, 0, .iload_n 0), (1, 2, 0, 0, 2128, 2147483647, .ldc 9), (3, 1, 0, 0, 0, 0, .iand), (4, 1, 0, 0, 0, 0, .iload_n 1), (5, 1, 0, 0, 0, 0, .irem), (6, 1, 0, 0, 0, 0, .ireturn)] cs ss L st h) : G Law_low d mc ms cs ss 0 L st h Q := G.run (by decide +kernel) hw
/-! blocks of Law_take -/
theorem ml_Law_take : (g_m Law_take).2.2.1 = 5 := rfl
theorem rt_Law_take : (g_m Law_take).2.2.2.1 = (some .int) := rfl
theorem B_Law_take_0 {d mc ms cs ss : Nat} {L : List (Option Value)} {st : List Value} {h : g_H} {Q : g_Po} (hw : g_wp Law_take d mc ms Q 6 [(0, 1, 0, 0, 0, 0, .aload_n 0), (1, 1, 0, 0, 0, 0, .iload_n 1), (2, 1, 0, 0, 0, 0, .iconst 0), (3, 3, 84, 6, 2052, 2, .invokevirtual 10)] cs ss L st h) : G Law_take d mc ms cs ss 0 L st h Q := G.run (by decide +kernel) hw
theorem B_Law_take_6 {d mc ms cs ss : Nat} {L : List (Option Value)} {st : List Value} {h : g_H} {Q : g_Po} (hw : g_wp Law_take d mc ms Q 10 [(6, 1, 0, 0, 0, 0, .istore_n 3), (7, 1, 0, 0, 0, 0, .iconst 0), (8, 2, 0, 0, 0, 0, .istore 4)] cs ss L st h) : G Law_take d mc ms cs ss 6 L st h Q := G.run (by decide +kernel) hw
theorem B_Law_take_10 {d mc ms cs ss : Nat} {L : List (Option Value)} {st : List Value} {h : g_H} {Q : g_Po} (hw : g_wp Law_take d mc ms Q 16 [(10, 2, 0, 0, 0, 0, .iload 4), (12, 1, 0, 0, 0, 0, .iload_n 3), (13, 3, 33, 0, 0, 0, .if_icmp .ge 20)] cs ss L st h) : G Law_take d mc ms cs ss 10 L st h Q := G.run (by decide +kernel) hw
theorem B_Law_take_16 {d mc ms cs ss : Nat} {L : List (Option Value)} {st : List Value} {h : g_H} {Q : g_Po} (hw : g_wp Law_take d mc ms Q 26 [(16, 1, 0, 0, 0, 0, .aload_n 2), (17, 2, 0, 0, 0, 0, .iload 4), (19, 1, 0, 0, 0, 0, .aload_n 0), (20, 1, 0, 0, 0, 0, .iload_n 1), (21, 2, 0, 0, 0, 0, .iload 4), (23, 3, 85, 6, 2115, 2, .invokevirtual 16)] cs ss L st h) : G Law_take d mc ms cs ss 16 L st h Q := G.run (by decide +kernel) hw
theorem B_Law_take_26 {d mc ms cs ss : Nat} {L : List (Option Value)} {st : List Value} {h : g_H} {Q : g_Po} (hw : g_wp Law_take d mc ms Q 33 [(26, 1, 0, 0, 0, 0, .iastore), (27, 3, 0, 0, 0, 1, .iinc 4 1), (30, 3, 10, 0, 0, 0, .goto (-20))] cs ss L st h) : G Law_take d mc ms cs ss 26 L st h Q := G.run (by decide +kernel) hw
theorem B_Law_take_33 {d mc ms cs ss : Nat} {L : List (Option Value)} {st : List Value} {h : g_H} {Q : g_Po} (hw : g_wp Law_take d mc ms Q 41 [(33, 1, 0, 0, 0, 0, .aload_n 2), (34, 1, 0, 0, 0, 0, .iload_n 3), (35, 1, 0, 0, 0, 0, .aload_n 2), (36, 1, 0, 0, 0, 0, .iconst 0), (37, 1, 0, 0, 0, 0, .iaload), (38, 1, 0, 0, 0, 0, .iastore), (39, 1, 0, 0, 0, 0, .iload_n 3), (40, 1, 0, 0, 0, 0, .ireturn)] cs ss L st h) : G Law_take d mc ms cs ss 33 L st h Q := G.run (by decide +kernel) hw
/-! blocks of Law_far -/
theorem ml_Law_far : (g_m Law_far).2.2.1 = 4 := rfl
theorem rt_Law_far : (g_m Law_far).2.2.2.1 = (some .int) := rfl
theorem B_Law_far_0 {d mc ms cs ss : Nat} {L : List (Option Value)} {st : List Value} {h : g_H} {Q : g_Po} (hw : g_wp Law_far d mc ms Q 32 [(0, 1, 0, 0, 0, 0, .iload_n 0), (1, 3, 0, 0, 0, 1000, .sipush 1000), (4, 1, 0, 0, 0, 0, .idiv), (5, 1, 0, 0, 0, 0, .iload_n 1), (6, 3, 0, 0, 0, 1000, .sipush 1000), (9, 1, 0, 0, 0, 0, .idiv), (10, 1, 0, 0, 0, 0, .isub), (11, 1, 0, 0, 0, 0, .istore_n 2), (12, 1, 0, 0, 0, 0, .iload_n 0), (13, 3, 0, 0, 0, 1000, .sipush 1000), (16, 1, 0, 0, 0, 0, .irem), (17, 1, 0, 0, 0, 0, .iload_n 1), (18, 3, 0, 0, 0, 1000, .sipush 1000), (21, 1, 0, 0, 0, 0, .irem), (22, 1, 0, 0, 0, 0, .isub), (23, 1, 0, 0, 0, 0, .istore_n 3), (24, 1, 0, 0, 0, 0, .iload_n 2), (25, 1, 0, 0, 0, 0, .iload_n 2), (26, 1, 0, 0, 0, 0, .imul), (27, 1, 0, 0, 0, 0, .iload_n 3), (28, 1, 0, 0, 0, 0, .iload_n 3), (29, 1, 0, 0, 0, 0, .imul), (30, 1, 0, 0, 0, 0, .iadd), (31, 1, 0, 0, 0, 0, .ireturn)] cs ss L st h) : G Law_far d mc ms cs ss 0 L st h Q := G.run (by decide +kernel) hw
/-! blocks of Law_area -/
theorem ml_Law_area : (g_m Law_area).2.2.1 = 3 := rfl
theorem rt_Law_area : (g_m Law_area).2.2.2.1 = (some .int) := rfl
theorem B_Law_area_0 {d mc ms cs ss : Nat} {L : List (Option Value)} {st : List Value} {h : g_H} {Q : g_Po} (hw : g_wp Law_area d mc ms Q 48 [(0, 1, 0, 0, 0, 0, .iload_n 1), (1, 3, 0, 0, 0, 1000, .sipush 1000), (4, 1, 0, 0, 0, 0, .idiv), (5, 1, 0, 0, 0, 0, .iload_n 0), (6, 3, 0, 0, 0, 1000, .sipush 1000), (9, 1, 0, 0, 0, 0, .idiv), (10, 1, 0, 0, 0, 0, .isub), (11, 1, 0, 0, 0, 0, .iload_n 2), (12, 3, 0, 0, 0, 1000, .sipush 1000), (15, 1, 0, 0, 0, 0, .irem), (16, 1, 0, 0, 0, 0, .iload_n 0), (17, 3, 0, 0, 0, 1000, .sipush 1000), (20, 1, 0, 0, 0, 0, .irem), (21, 1, 0, 0, 0, 0, .isub), (22, 1, 0, 0, 0, 0, .imul), (23, 1, 0, 0, 0, 0, .iload_n 2), (24, 3, 0, 0, 0, 1000, .sipush 1000), (27, 1, 0, 0, 0, 0, .idiv), (28, 1, 0, 0, 0, 0, .iload_n 0), (29, 3, 0, 0, 0, 1000, .sipush 1000), (32, 1, 0, 0, 0, 0, .idiv), (33, 1, 0, 0, 0, 0, .isub), (34, 1, 0, 0, 0, 0, .iload_n 1), (35, 3, 0, 0, 0, 1000, .sipush 1000), (38, 1, 0, 0, 0, 0, .irem), (39, 1, 0, 0, 0, 0, .iload_n 0), (40, 3, 0, 0, 0, 1000, .sipush 1000), (43, 1, 0, 0, 0, 0, .irem), (44, 1, 0, 0, 0, 0, .isub), (45, 1, 0, 0, 0, 0, .imul), (46, 1, 0, 0, 0, 0, .isub), (47, 1, 0, 0, 0, 0, .ireturn)] cs ss L st h) : G Law_area d mc ms cs ss 0 L st h Q := G.run (by decide +kernel) hw
/-! blocks of Law_apart -/
theorem ml_Law_apart : (g_m Law_apart).2.2.1 = 6 := rfl
theorem rt_Law_apart : (g_m Law_apart).2.2.2.1 = (some .boolean) := rfl
theorem B_Law_apart_0 {d mc ms cs ss : Nat} {L : List (Option Value)} {st : List Value} {h : g_H} {Q : g_Po} (hw : g_wp Law_apart d mc ms Q 6 [(0, 1, 0, 0, 0, 0, .iload_n 0), (1, 1, 0, 0, 0, 0, .iload_n 1), (2, 1, 0, 0, 0, 0, .iload_n 2), (3, 3, 100, 0, 2141, 3, .invokestatic 19)] cs ss L st h) : G Law_apart d mc ms cs ss 0 L st h Q := G.run (by decide +kernel) hw
theorem B_Law_apart_6 {d mc ms cs ss : Nat} {L : List (Option Value)} {st : List Value} {h : g_H} {Q : g_Po} (hw : g_wp Law_apart d mc ms Q 14 [(6, 2, 0, 0, 0, 0, .istore 4), (8, 1, 0, 0, 0, 0, .iload_n 0), (9, 1, 0, 0, 0, 0, .iload_n 1), (10, 1, 0, 0, 0, 0, .iload_n 3), (11, 3, 100, 0, 2141, 3, .invokestatic 19)] cs ss L st h) : G Law_apart d mc ms cs ss 6 L st h Q := G.run (by decide +kernel) hw
theorem B_Law_apart_14 {d mc ms cs ss : Nat} {L : List (Option Value)} {st : List Value} {h : g_H} {Q : g_Po} (hw : g_wp Law_apart d mc ms Q 21 [(14, 2, 0, 0, 0, 0, .istore 5), (16, 2, 0, 0, 0, 0, .iload 4), (18, 3, 26, 0, 0, 0, .ifCond .le 8)] cs ss L st h) : G Law_apart d mc ms cs ss 14 L st h Q := G.run (by decide +kernel) hw
theorem B_Law_apart_21 {d mc ms cs ss : Nat} {L : List (Option Value)} {st : List Value} {h : g_H} {Q : g_Po} (hw : g_wp Law_apart d mc ms Q 26 [(21, 2, 0, 0, 0, 0, .iload 5), (23, 3, 36, 0, 0, 0, .ifCond .lt 13)] cs ss L st h) : G Law_apart d mc ms cs ss 21 L st h Q := G.run (by decide +kernel) hw
theorem B_Law_apart_26 {d mc ms cs ss : Nat} {L : List (Option Value)} {st : List Value} {h : g_H} {Q : g_Po} (hw : g_wp Law_apart d mc ms Q 31 [(26, 2, 0, 0, 0, 0, .iload 4), (28, 3, 40, 0, 0, 0, .ifCond .ge 12)] cs ss L st h) : G Law_apart d mc ms cs ss 26 L st h Q := G.run (by decide +kernel) hw
theorem B_Law_apart_31 {d mc ms cs ss : Nat} {L : List (Option Value)} {st : List Value} {h : g_H} {Q : g_Po} (hw : g_wp Law_apart d mc ms Q 36 [(31, 2, 0, 0, 0, 0, .iload 5), (33, 3, 40, 0, 0, 0, .ifCond .le 7)] cs ss L st h) : G Law_apart d mc ms cs ss 31 L st h Q := G.run (by decide +kernel) hw
theorem B_Law_apart_36 {d mc ms cs ss : Nat} {L : List (Option Value)} {st : List Value} {h : g_H} {Q : g_Po} (hw : g_wp Law_apart d mc ms Q 40 [(36, 1, 0, 0, 0, 1, .iconst 1), (37, 3, 41, 0, 0, 0, .goto 4)] cs ss L st h) : G Law_apart d mc ms cs ss 36 L st h Q := G.run (by decide +kernel) hw
theorem B_Law_apart_40 {d mc ms cs ss : Nat} {L : List (Option Value)} {st : List Value} {h : g_H} {Q : g_Po} (hw : g_wp Law_apart d mc ms Q 41 [(40, 1, 0, 0, 0, 0, .iconst 0)] cs ss L st h) : G Law_apart d mc ms cs ss 40 L st h Q := G.run (by decide +kernel) hw
theorem B_Law_apart_41 {d mc ms cs ss : Nat} {L : List (Option Value)} {st : List Value} {h : g_H} {Q : g_Po} (hw : g_wp Law_apart d mc ms Q 42 [(41, 1, 0, 0, 0, 0, .ireturn)] cs ss L st h) : G Law_apart d mc ms cs ss 41 L st h Q := G.run (by decide +kernel) hw
/-! blocks of Law_cross -/
theorem ml_Law_cross : (g_m Law_cross).2.2.1 = 4 := rfl
theorem rt_Law_cross : (g_m Law_cross).2.2.2.1 = (some .boolean) := rfl
theorem B_Law_cross_0 {d mc ms cs ss : Nat} {L : List (Option Value)} {st : List Value} {h : g_H} {Q : g_Po} (hw : g_wp Law_cross d mc ms Q 7 [(0, 1, 0, 0, 0, 0, .iload_n 0), (1, 1, 0, 0, 0, 0, .iload_n 1), (2, 1, 0, 0, 0, 0, .iload_n 2), (3, 1, 0, 0, 0, 0, .iload_n 3), (4, 3, 101, 0, 2147, 4, .invokestatic 25)] cs ss L st h) : G Law_cross d mc ms cs ss 0 L st h Q := G.run (by decide +kernel) hw
theorem B_Law_cross_7 {d mc ms cs ss : Nat} {L : List (Option Value)} {st : List Value} {h : g_H} {Q : g_Po} (hw : g_wp Law_cross d mc ms Q 10 [(7, 3, 24, 0, 0, 0, .ifCond .eq 17)] cs ss L st h) : G Law_cross d mc ms cs ss 7 L st h Q := G.run (by decide +kernel) hw
theorem B_Law_cross_10 {d mc ms cs ss : Nat} {L : List (Option Value)} {st : List Value} {h : g_H} {Q : g_Po} (hw : g_wp Law_cross d mc ms Q 17 [(10, 1, 0, 0, 0, 0, .iload_n 2), (11, 1, 0, 0, 0, 0, .iload_n 3), (12, 1, 0, 0, 0, 0, .iload_n 0), (13, 1, 0, 0, 0, 0, .iload_n 1), (14, 3, 101, 0, 2147, 4, .invokestatic 25)] cs ss L st h) : G Law_cross d mc ms cs ss 10 L st h Q := G.run (by decide +kernel) hw
theorem B_Law_cross_17 {d mc ms cs ss : Nat} {L : List (Option Value)} {st : List Value} {h : g_H} {Q : g_Po} (hw : g_wp Law_cross d mc ms Q 20 [(17, 3, 24, 0, 0, 0, .ifCond .eq 7)] cs ss L st h) : G Law_cross d mc ms cs ss 17 L st h Q := G.run (by decide +kernel) hw
theorem B_Law_cross_20 {d mc ms cs ss : Nat} {L : List (Option Value)} {st : List Value} {h : g_H} {Q : g_Po} (hw : g_wp Law_cross d mc ms Q 24 [(20, 1, 0, 0, 0, 1, .iconst 1), (21, 3, 25, 0, 0, 0, .goto 4)] cs ss L st h) : G Law_cross d mc ms cs ss 20 L st h Q := G.run (by decide +kernel) hw
theorem B_Law_cross_24 {d mc ms cs ss : Nat} {L : List (Option Value)} {st : List Value} {h : g_H} {Q : g_Po} (hw : g_wp Law_cross d mc ms Q 25 [(24, 1, 0, 0, 0, 0, .iconst 0)] cs ss L st h) : G Law_cross d mc ms cs ss 24 L st h Q := G.run (by decide +kernel) hw
theorem B_Law_cross_25 {d mc ms cs ss : Nat} {L : List (Option Value)} {st : List Value} {h : g_H} {Q : g_Po} (hw : g_wp Law_cross d mc ms Q 26 [(25, 1, 0, 0, 0, 0, .ireturn)] cs ss L st h) : G Law_cross d mc ms cs ss 25 L st h Q := G.run (by decide +kernel) hw
/-! blocks of Law_root -/
theorem ml_Law_root : (g_m Law_root).2.2.1 = 4 := rfl
theorem rt_Law_root : (g_m Law_root).2.2.2.1 = (some .int) := rfl
theorem B_Law_root_0 {d mc ms cs ss : Nat} {L : List (Option Value)} {st : List Value} {h : g_H} {Q : g_Po} (hw : g_wp Law_root d mc ms Q 6 [(0, 1, 0, 0, 0, 0, .iconst 0), (1, 1, 0, 0, 0, 0, .istore_n 1), (2, 3, 0, 0, 0, 15000, .sipush 15000), (5, 1, 0, 0, 0, 0, .istore_n 2)] cs ss L st h) : G Law_root d mc ms cs ss 0 L st h Q := G.run (by decide +kernel) hw
theorem B_Law_root_6 {d mc ms cs ss : Nat} {L : List (Option Value)} {st : List Value} {h : g_H} {Q : g_Po} (hw : g_wp Law_root d mc ms Q 13 [(6, 1, 0, 0, 0, 0, .iload_n 2), (7, 1, 0, 0, 0, 0, .iload_n 1), (8, 1, 0, 0, 0, 0, .isub), (9, 1, 0, 0, 0, 1, .iconst 1), (10, 3, 36, 0, 0, 0, .if_icmp .le 26)] cs ss L st h) : G Law_root d mc ms cs ss 6 L st h Q := G.run (by decide +kernel) hw
theorem B_Law_root_13 {d mc ms cs ss : Nat} {L : List (Option Value)} {st : List Value} {h : g_H} {Q : g_Po} (hw : g_wp Law_root d mc ms Q 26 [(13, 1, 0, 0, 0, 0, .iload_n 1), (14, 1, 0, 0, 0, 0, .iload_n 2), (15, 1, 0, 0, 0, 0, .iadd), (16, 1, 0, 0, 0, 2, .iconst 2), (17, 1, 0, 0, 0, 0, .idiv), (18, 1, 0, 0, 0, 0, .istore_n 3), (19, 1, 0, 0, 0, 0, .iload_n 3), (20, 1, 0, 0, 0, 0, .iload_n 3), (21, 1, 0, 0, 0, 0, .imul), (22, 1, 0, 0, 0, 0, .iload_n 0), (23, 3, 31, 0, 0, 0, .if_icmp .gt 8)] cs ss L st h) : G Law_root d mc ms cs ss 13 L st h Q := G.run (by decide +kernel) hw
theorem B_Law_root_26 {d mc ms cs ss : Nat} {L : List (Option Value)} {st : List Value} {h : g_H} {Q : g_Po} (hw : g_wp Law_root d mc ms Q 31 [(26, 1, 0, 0, 0, 0, .iload_n 3), (27, 1, 0, 0, 0, 0, .istore_n 1), (28, 3, 33, 0, 0, 0, .goto 5)] cs ss L st h) : G Law_root d mc ms cs ss 26 L st h Q := G.run (by decide +kernel) hw
theorem B_Law_root_31 {d mc ms cs ss : Nat} {L : List (Option Value)} {st : List Value} {h : g_H} {Q : g_Po} (hw : g_wp Law_root d mc ms Q 33 [(31, 1, 0, 0, 0, 0, .iload_n 3), (32, 1, 0, 0, 0, 0, .istore_n 2)] cs ss L st h) : G Law_root d mc ms cs ss 31 L st h Q := G.run (by decide +kernel) hw
theorem B_Law_root_33 {d mc ms cs ss : Nat} {L : List (Option Value)} {st : List Value} {h : g_H} {Q : g_Po} (hw : g_wp Law_root d mc ms Q 36 [(33, 3, 6, 0, 0, 0, .goto (-27))] cs ss L st h) : G Law_root d mc ms cs ss 33 L st h Q := G.run (by decide +kernel) hw
theorem B_Law_root_36 {d mc ms cs ss : Nat} {L : List (Option Value)} {st : List Value} {h : g_H} {Q : g_Po} (hw : g_wp Law_root d mc ms Q 38 [(36, 1, 0, 0, 0, 0, .iload_n 1), (37, 1, 0, 0, 0, 0, .ireturn)] cs ss L st h) : G Law_root d mc ms cs ss 36 L st h Q := G.run (by decide +kernel) hw
/-! blocks of Law_count -/
theorem ml_Law_count : (g_m Law_count).2.2.1 = 3 := rfl
theorem rt_Law_count : (g_m Law_count).2.2.2.1 = (some .int) := rfl
theorem B_Law_count_0 {d mc ms cs ss : Nat} {L : List (Option Value)} {st : List Value} {h : g_H} {Q : g_Po} (hw : g_wp Law_count d mc ms Q 4 [(0, 1, 0, 0, 0, 0, .iconst 0), (1, 1, 0, 0, 0, 0, .istore_n 1), (2, 1, 0, 0, 0, 0, .iload_n 0), (3, 1, 0, 0, 0, 0, .istore_n 2)] cs ss L st h) : G Law_count d mc ms cs ss 0 L st h Q := G.run (by decide +kernel) hw
theorem B_Law_count_4 {d mc ms cs ss : Nat} {L : List (Option Value)} {st : List Value} {h : g_H} {Q : g_Po} (hw : g_wp Law_count d mc ms Q 8 [(4, 1, 0, 0, 0, 0, .iload_n 2), (5, 3, 20, 0, 0, 0, .ifCond .eq 15)] cs ss L st h) : G Law_count d mc ms cs ss 4 L st h Q := G.run (by decide +kernel) hw
theorem B_Law_count_8 {d mc ms cs ss : Nat} {L : List (Option Value)} {st : List Value} {h : g_H} {Q : g_Po} (hw : g_wp Law_count d mc ms Q 20 [(8, 3, 0, 0, 0, 1, .iinc 1 1), (11, 1, 0, 0, 0, 0, .iload_n 2), (12, 1, 0, 0, 0, 0, .iload_n 2), (13, 1, 0, 0, 0, 1, .iconst 1), (14, 1, 0, 0, 0, 0, .isub), (15, 1, 0, 0, 0, 0, .iand), (16, 1, 0, 0, 0, 0, .istore_n 2), (17, 3, 4, 0, 0, 0, .goto (-13))] cs ss L st h) : G Law_count d mc ms cs ss 8 L st h Q := G.run (by decide +kernel) hw
theorem B_Law_count_20 {d mc ms cs ss : Nat} {L : List (Option Value)} {st : List Value} {h : g_H} {Q : g_Po} (hw : g_wp Law_count d mc ms Q 22 [(20, 1, 0, 0, 0, 0, .iload_n 1), (21, 1, 0, 0, 0, 0, .ireturn)] cs ss L st h) : G Law_count d mc ms cs ss 20 L st h Q := G.run (by decide +kernel) hw
theorem and_31 (x : Int32) : ∃ r : Int, (0 ≤ r ∧ r ≤ 2147483647) ∧ x &&& I 2147483647 = I r := by
  refine ⟨(x &&& I 2147483647).toInt, ?_, I_of _⟩
  have h : ((x &&& I 2147483647).toBitVec).toNat ≤ 2147483647 := by
    rw [Int32.toBitVec_and, BitVec.toNat_and]
    have e : (I 2147483647).toBitVec.toNat = 2147483647 := by decide
    rw [e]
    exact Nat.and_le_right
  have h2 : (x &&& I 2147483647).toInt = (((x &&& I 2147483647).toBitVec).toNat : Int) := BitVec.toInt_eq_toNat_of_lt (by omega)
  omega
theorem Law_low_c {d : Nat} {x : Int32} {n : Int} {h : g_H} {Q : g_Po} (hn : 1 ≤ n ∧ n ≤ 2147483647) (hQ : ∀ r : Int, 0 ≤ r → r < n → Q (some (.int (I r))) h) : Call Law_low d 0 0 [.int x, .int (I n)] h Q := by
  have h0 : (¬ I n = I 0) = True := by
    rw [eq_iff_iff]
    exact ⟨fun _ => trivial, fun _ => by rw [I_eq (by omega) (by omega)]; omega⟩
  obtain ⟨r, hr, er⟩ := and_31 x
  refine Call.intro (by rfl) (Nat.le_of_ble_eq_true rfl) ?_
  refine G.eqL (L := [some (.int _), some (.int _)]) rfl ?_
  refine B_Law_low_0 ?_
  simp only [wp_cons, wp_nil, List.getElem?_cons_zero, List.getElem?_cons_succ, List.set_cons_zero, List.set_cons_succ, s_iload_n0, ldI_s, s_ldc, s_iand, p2_s, s_iload_n1, s_irem, ne_k1000, ne_k2, s_ireturn, p1_s, rI_i, rI_z, rI_c, z_01, z_11, rt_Law_low, true_and, and_true, Nat.le_refl, true_implies, forall_const, not_false_eq_true, false_implies, not_true_eq_false, reduceCtorEq, tl_s, tl_n, rf_s, List.cons_append, List.nil_append, true_or, or_true, h0, er]
  have h1 := Int.emod_nonneg r (show n ≠ 0 by omega)
  have h2 := Int.emod_lt_of_pos r (show 0 < n by omega)
  have e : I r - I r / I n * I n = I (r % n) := by
    rw [I_div (by omega) (by omega), Int.tdiv_eq_ediv_of_nonneg hr.1, I_mul, I_sub, Int.emod_def, Int.mul_comm]
  rw [e]
  exact hQ _ h1 h2
theorem Law_far_c {d : Nat} {p q : Int} {h : g_H} {Q : g_Po} (hp : pt p) (hq : pt q) (hQ : Q (some (.int (I (sqd p q)))) h) : Call Law_far d 0 0 [.int (I p), .int (I q)] h Q := by
  refine Call.intro (by rfl) (Nat.le_of_ble_eq_true rfl) ?_
  refine G.eqL (L := [some (.int _), some (.int _), none, none]) rfl ?_
  refine B_Law_far_0 ?_
  simp only [wp_cons, wp_nil, List.getElem?_cons_zero, List.getElem?_cons_succ, List.set_cons_zero, List.set_cons_succ, s_iload_n0, ldI_s, s_sipush, s_idiv, p2_s, ne_k1000, ne_k2, s_iload_n1, s_isub, I_sub, s_istore_n2, p1_s, s1_0, s1_s, kx_i, kx_r, kx_s, kx_n, kx_l, kx_0, s_irem, s_istore_n3, s_iload_n2, s_imul, I_mul, s_iload_n3, s_iadd, I_add, s_ireturn, rI_i, rI_z, rI_c, z_01, z_11, rt_Law_far, true_and, and_true, Nat.le_refl, true_implies, forall_const, not_false_eq_true, false_implies, not_true_eq_false, reduceCtorEq, tl_s, tl_n, rf_s, List.cons_append, List.nil_append, true_or, or_true, I_div1000 hp, I_div1000 hq]
  rw [show p - p / 1000 * 1000 = p % 1000 by omega, show q - q / 1000 * 1000 = q % 1000 by omega]
  exact hQ
theorem Law_area_c {d : Nat} {a b c : Int} {h : g_H} {Q : g_Po} (ha : pt a) (hb : pt b) (hc : pt c) (hQ : Q (some (.int (I (crs a b c)))) h) : Call Law_area d 0 0 [.int (I a), .int (I b), .int (I c)] h Q := by
  refine Call.intro (by rfl) (Nat.le_of_ble_eq_true rfl) ?_
  refine G.eqL (L := [some (.int _), some (.int _), some (.int _)]) rfl ?_
  refine B_Law_area_0 ?_
  simp only [wp_cons, wp_nil, List.getElem?_cons_zero, List.getElem?_cons_succ, List.set_cons_zero, List.set_cons_succ, s_iload_n1, ldI_s, s_sipush, s_idiv, p2_s, ne_k1000, ne_k2, s_iload_n0, s_isub, I_sub, s_iload_n2, s_irem, s_imul, I_mul, s_ireturn, p1_s, rI_i, rI_z, rI_c, z_01, z_11, rt_Law_area, true_and, and_true, Nat.le_refl, true_implies, forall_const, not_false_eq_true, false_implies, not_true_eq_false, reduceCtorEq, tl_s, tl_n, rf_s, List.cons_append, List.nil_append, true_or, or_true, I_div1000 ha, I_div1000 hb, I_div1000 hc]
  have e : (b / 1000 - a / 1000) * (c % 1000 - a % 1000) - (c / 1000 - a / 1000) * (b % 1000 - a % 1000) = crs a b c := by
    unfold crs
    rw [Int.mul_comm (c / 1000 - a / 1000)]
  rw [← e] at hQ
  rw [show a - a / 1000 * 1000 = a % 1000 by omega, show b - b / 1000 * 1000 = b % 1000 by omega, show c - c / 1000 * 1000 = c % 1000 by omega]
  exact hQ
theorem mul_neg_iff' {x y : Int} : x * y < 0 ↔ (0 < x ∧ y < 0) ∨ (x < 0 ∧ 0 < y) := by
  constructor
  · intro h
    rcases Int.lt_trichotomy x 0 with hx | hx | hx
    · rcases Int.lt_trichotomy y 0 with hy | hy | hy
      · have := Int.mul_pos_of_neg_of_neg hx hy; omega
      · rw [hy, Int.mul_zero] at h; omega
      · exact Or.inr ⟨hx, hy⟩
    · rw [hx, Int.zero_mul] at h; omega
    · rcases Int.lt_trichotomy y 0 with hy | hy | hy
      · exact Or.inl ⟨hx, hy⟩
      · rw [hy, Int.mul_zero] at h; omega
      · have := Int.mul_pos hx hy; omega
  · rintro (⟨h1, h2⟩ | ⟨h1, h2⟩)
    · exact Int.mul_neg_of_pos_of_neg h1 h2
    · exact Int.mul_neg_of_neg_of_pos h1 h2
def apt (a b c e : Int) : Prop := (0 < crs a b c ∧ crs a b e < 0) ∨ (crs a b c < 0 ∧ 0 < crs a b e)
theorem Law_apart_c {d : Nat} (d1 : 1 ≤ d) {a b c e : Int} {h : g_H} {Q : g_Po} (ha : pt a) (hb : pt b) (hc : pt c) (he : pt e) (hT : apt a b c e → Q (some (.int (I 1))) h) (hF : ¬ apt a b c e → Q (some (.int (I 0))) h) : Call Law_apart d 0 0 [.int (I a), .int (I b), .int (I c), .int (I e)] h Q := by
  have h1 := crs_bd ha hb hc
  have h2 := crs_bd ha hb he
  refine Call.intro (by rfl) (Nat.le_of_ble_eq_true rfl) ?_
  refine G.eqL (L := [some (.int _), some (.int _), some (.int _), some (.int _), none, none]) rfl ?_
  refine B_Law_apart_0 ?_
  simp only [wp_cons, wp_nil, List.getElem?_cons_zero, List.getElem?_cons_succ, List.set_cons_zero, List.set_cons_succ, s_iload_n0, ldI_s, s_iload_n1, s_iload_n2, s_invokestatic, rc_s, ob_s, List.drop_succ_cons, List.drop_zero, List.take_succ_cons, List.take_zero, List.reverse_cons, List.reverse_nil, List.nil_append, List.cons_append, List.length_cons, List.length_nil, Nat.reduceEqDiff, eq_self, reduceIte, p1_s, p2_s, l1_s, d1, Int.reduceToNat, Nat.reduceAdd, Nat.reduceLeDiff, true_and, and_true, Nat.le_refl, true_implies, forall_const, not_false_eq_true, false_implies, not_true_eq_false, reduceCtorEq, tl_s, tl_n, rf_s, true_or, or_true]
  refine Law_area_c ha hb hc ?_
  refine B_Law_apart_6 ?_
  simp only [wp_cons, wp_nil, List.getElem?_cons_zero, List.getElem?_cons_succ, List.set_cons_zero, List.set_cons_succ, s_istore, p1_s, s1_0, s1_s, kx_i, kx_r, kx_s, kx_n, kx_l, kx_0, s_iload_n0, ldI_s, s_iload_n1, s_iload_n3, s_invokestatic, rc_s, ob_s, List.drop_succ_cons, List.drop_zero, List.take_succ_cons, List.take_zero, List.reverse_cons, List.reverse_nil, List.nil_append, List.cons_append, List.length_cons, List.length_nil, Nat.reduceEqDiff, eq_self, reduceIte, p2_s, l1_s, d1, Int.reduceToNat, Nat.reduceAdd, Nat.reduceLeDiff, true_and, and_true, Nat.le_refl, true_implies, forall_const, not_false_eq_true, false_implies, not_true_eq_false, reduceCtorEq, tl_s, tl_n, rf_s, true_or, or_true]
  refine Law_area_c ha hb he ?_
  by_cases c1 : 0 < crs a b c
  · by_cases c2 : crs a b e < 0
    · refine B_Law_apart_14 ?_
      simp only [wp_cons, wp_nil, List.getElem?_cons_zero, List.getElem?_cons_succ, List.set_cons_zero, List.set_cons_succ, s_istore, p1_s, s1_0, s1_s, kx_i, kx_r, kx_s, kx_n, kx_l, kx_0, s_iload, ldI_s, s_ifCond_le, true_and, and_true, Nat.le_refl, true_implies, forall_const, not_false_eq_true, false_implies, not_true_eq_false, reduceCtorEq, tl_s, tl_n, rf_s, List.cons_append, List.nil_append, true_or, or_true, d1]
      refine b_le (by omega) (by omega) (fun cc => absurd cc (by omega)) (fun cc => ?_)
      refine B_Law_apart_21 ?_
      simp only [wp_cons, wp_nil, List.getElem?_cons_zero, List.getElem?_cons_succ, List.set_cons_zero, List.set_cons_succ, s_iload, ldI_s, s_ifCond_lt, p1_s, true_and, and_true, Nat.le_refl, true_implies, forall_const, not_false_eq_true, false_implies, not_true_eq_false, reduceCtorEq, tl_s, tl_n, rf_s, List.cons_append, List.nil_append, true_or, or_true, d1]
      refine b_lt (by omega) (by omega) (fun cc => ?_) (fun cc => absurd cc (by omega))
      refine B_Law_apart_36 ?_
      simp only [wp_cons, wp_nil, List.getElem?_cons_zero, List.getElem?_cons_succ, List.set_cons_zero, List.set_cons_succ, s_iconst, s_goto, true_and, and_true, Nat.le_refl, true_implies, forall_const, not_false_eq_true, false_implies, not_true_eq_false, reduceCtorEq, tl_s, tl_n, rf_s, List.cons_append, List.nil_append, true_or, or_true, d1]
      refine B_Law_apart_41 ?_
      simp only [wp_cons, wp_nil, List.getElem?_cons_zero, List.getElem?_cons_succ, List.set_cons_zero, List.set_cons_succ, s_ireturn, p1_s, rI_i, rI_z, rI_c, z_01, z_11, rt_Law_apart, true_and, and_true, Nat.le_refl, true_implies, forall_const, not_false_eq_true, false_implies, not_true_eq_false, reduceCtorEq, tl_s, tl_n, rf_s, List.cons_append, List.nil_append, true_or, or_true, d1]
      exact hT (Or.inl ⟨c1, c2⟩)
    · refine B_Law_apart_14 ?_
      simp only [wp_cons, wp_nil, List.getElem?_cons_zero, List.getElem?_cons_succ, List.set_cons_zero, List.set_cons_succ, s_istore, p1_s, s1_0, s1_s, kx_i, kx_r, kx_s, kx_n, kx_l, kx_0, s_iload, ldI_s, s_ifCond_le, true_and, and_true, Nat.le_refl, true_implies, forall_const, not_false_eq_true, false_implies, not_true_eq_false, reduceCtorEq, tl_s, tl_n, rf_s, List.cons_append, List.nil_append, true_or, or_true, d1]
      refine b_le (by omega) (by omega) (fun cc => absurd cc (by omega)) (fun cc => ?_)
      refine B_Law_apart_21 ?_
      simp only [wp_cons, wp_nil, List.getElem?_cons_zero, List.getElem?_cons_succ, List.set_cons_zero, List.set_cons_succ, s_iload, ldI_s, s_ifCond_lt, p1_s, true_and, and_true, Nat.le_refl, true_implies, forall_const, not_false_eq_true, false_implies, not_true_eq_false, reduceCtorEq, tl_s, tl_n, rf_s, List.cons_append, List.nil_append, true_or, or_true, d1]
      refine b_lt (by omega) (by omega) (fun cc => absurd cc (by omega)) (fun cc => ?_)
      refine B_Law_apart_26 ?_
      simp only [wp_cons, wp_nil, List.getElem?_cons_zero, List.getElem?_cons_succ, List.set_cons_zero, List.set_cons_succ, s_iload, ldI_s, s_ifCond_ge, p1_s, true_and, and_true, Nat.le_refl, true_implies, forall_const, not_false_eq_true, false_implies, not_true_eq_false, reduceCtorEq, tl_s, tl_n, rf_s, List.cons_append, List.nil_append, true_or, or_true, d1]
      refine b_le (by omega) (by omega) (fun cc => ?_) (fun cc => absurd cc (by omega))
      refine B_Law_apart_40 ?_
      simp only [wp_cons, wp_nil, List.getElem?_cons_zero, List.getElem?_cons_succ, List.set_cons_zero, List.set_cons_succ, s_iconst, true_and, and_true, Nat.le_refl, true_implies, forall_const, not_false_eq_true, false_implies, not_true_eq_false, reduceCtorEq, tl_s, tl_n, rf_s, List.cons_append, List.nil_append, true_or, or_true, d1]
      refine B_Law_apart_41 ?_
      simp only [wp_cons, wp_nil, List.getElem?_cons_zero, List.getElem?_cons_succ, List.set_cons_zero, List.set_cons_succ, s_ireturn, p1_s, rI_i, rI_z, rI_c, z_01, z_11, rt_Law_apart, true_and, and_true, Nat.le_refl, true_implies, forall_const, not_false_eq_true, false_implies, not_true_eq_false, reduceCtorEq, tl_s, tl_n, rf_s, List.cons_append, List.nil_append, true_or, or_true, d1]
      exact hF (fun q => by unfold apt at q; omega)
  · by_cases c2 : crs a b c < 0
    · by_cases c3 : 0 < crs a b e
      · refine B_Law_apart_14 ?_
        simp only [wp_cons, wp_nil, List.getElem?_cons_zero, List.getElem?_cons_succ, List.set_cons_zero, List.set_cons_succ, s_istore, p1_s, s1_0, s1_s, kx_i, kx_r, kx_s, kx_n, kx_l, kx_0, s_iload, ldI_s, s_ifCond_le, true_and, and_true, Nat.le_refl, true_implies, forall_const, not_false_eq_true, false_implies, not_true_eq_false, reduceCtorEq, tl_s, tl_n, rf_s, List.cons_append, List.nil_append, true_or, or_true, d1]
        refine b_le (by omega) (by omega) (fun cc => ?_) (fun cc => absurd cc (by omega))
        refine B_Law_apart_26 ?_
        simp only [wp_cons, wp_nil, List.getElem?_cons_zero, List.getElem?_cons_succ, List.set_cons_zero, List.set_cons_succ, s_iload, ldI_s, s_ifCond_ge, p1_s, true_and, and_true, Nat.le_refl, true_implies, forall_const, not_false_eq_true, false_implies, not_true_eq_false, reduceCtorEq, tl_s, tl_n, rf_s, List.cons_append, List.nil_append, true_or, or_true, d1]
        refine b_le (by omega) (by omega) (fun cc => absurd cc (by omega)) (fun cc => ?_)
        refine B_Law_apart_31 ?_
        simp only [wp_cons, wp_nil, List.getElem?_cons_zero, List.getElem?_cons_succ, List.set_cons_zero, List.set_cons_succ, s_iload, ldI_s, s_ifCond_le, p1_s, true_and, and_true, Nat.le_refl, true_implies, forall_const, not_false_eq_true, false_implies, not_true_eq_false, reduceCtorEq, tl_s, tl_n, rf_s, List.cons_append, List.nil_append, true_or, or_true, d1]
        refine b_le (by omega) (by omega) (fun cc => absurd cc (by omega)) (fun cc => ?_)
        refine B_Law_apart_36 ?_
        simp only [wp_cons, wp_nil, List.getElem?_cons_zero, List.getElem?_cons_succ, List.set_cons_zero, List.set_cons_succ, s_iconst, s_goto, true_and, and_true, Nat.le_refl, true_implies, forall_const, not_false_eq_true, false_implies, not_true_eq_false, reduceCtorEq, tl_s, tl_n, rf_s, List.cons_append, List.nil_append, true_or, or_true, d1]
        refine B_Law_apart_41 ?_
        simp only [wp_cons, wp_nil, List.getElem?_cons_zero, List.getElem?_cons_succ, List.set_cons_zero, List.set_cons_succ, s_ireturn, p1_s, rI_i, rI_z, rI_c, z_01, z_11, rt_Law_apart, true_and, and_true, Nat.le_refl, true_implies, forall_const, not_false_eq_true, false_implies, not_true_eq_false, reduceCtorEq, tl_s, tl_n, rf_s, List.cons_append, List.nil_append, true_or, or_true, d1]
        exact hT (Or.inr ⟨c2, c3⟩)
      · refine B_Law_apart_14 ?_
        simp only [wp_cons, wp_nil, List.getElem?_cons_zero, List.getElem?_cons_succ, List.set_cons_zero, List.set_cons_succ, s_istore, p1_s, s1_0, s1_s, kx_i, kx_r, kx_s, kx_n, kx_l, kx_0, s_iload, ldI_s, s_ifCond_le, true_and, and_true, Nat.le_refl, true_implies, forall_const, not_false_eq_true, false_implies, not_true_eq_false, reduceCtorEq, tl_s, tl_n, rf_s, List.cons_append, List.nil_append, true_or, or_true, d1]
        refine b_le (by omega) (by omega) (fun cc => ?_) (fun cc => absurd cc (by omega))
        refine B_Law_apart_26 ?_
        simp only [wp_cons, wp_nil, List.getElem?_cons_zero, List.getElem?_cons_succ, List.set_cons_zero, List.set_cons_succ, s_iload, ldI_s, s_ifCond_ge, p1_s, true_and, and_true, Nat.le_refl, true_implies, forall_const, not_false_eq_true, false_implies, not_true_eq_false, reduceCtorEq, tl_s, tl_n, rf_s, List.cons_append, List.nil_append, true_or, or_true, d1]
        refine b_le (by omega) (by omega) (fun cc => absurd cc (by omega)) (fun cc => ?_)
        refine B_Law_apart_31 ?_
        simp only [wp_cons, wp_nil, List.getElem?_cons_zero, List.getElem?_cons_succ, List.set_cons_zero, List.set_cons_succ, s_iload, ldI_s, s_ifCond_le, p1_s, true_and, and_true, Nat.le_refl, true_implies, forall_const, not_false_eq_true, false_implies, not_true_eq_false, reduceCtorEq, tl_s, tl_n, rf_s, List.cons_append, List.nil_append, true_or, or_true, d1]
        refine b_le (by omega) (by omega) (fun cc => ?_) (fun cc => absurd cc (by omega))
        refine B_Law_apart_40 ?_
        simp only [wp_cons, wp_nil, List.getElem?_cons_zero, List.getElem?_cons_succ, List.set_cons_zero, List.set_cons_succ, s_iconst, true_and, and_true, Nat.le_refl, true_implies, forall_const, not_false_eq_true, false_implies, not_true_eq_false, reduceCtorEq, tl_s, tl_n, rf_s, List.cons_append, List.nil_append, true_or, or_true, d1]
        refine B_Law_apart_41 ?_
        simp only [wp_cons, wp_nil, List.getElem?_cons_zero, List.getElem?_cons_succ, List.set_cons_zero, List.set_cons_succ, s_ireturn, p1_s, rI_i, rI_z, rI_c, z_01, z_11, rt_Law_apart, true_and, and_true, Nat.le_refl, true_implies, forall_const, not_false_eq_true, false_implies, not_true_eq_false, reduceCtorEq, tl_s, tl_n, rf_s, List.cons_append, List.nil_append, true_or, or_true, d1]
        exact hF (fun q => by unfold apt at q; omega)
    · refine B_Law_apart_14 ?_
      simp only [wp_cons, wp_nil, List.getElem?_cons_zero, List.getElem?_cons_succ, List.set_cons_zero, List.set_cons_succ, s_istore, p1_s, s1_0, s1_s, kx_i, kx_r, kx_s, kx_n, kx_l, kx_0, s_iload, ldI_s, s_ifCond_le, true_and, and_true, Nat.le_refl, true_implies, forall_const, not_false_eq_true, false_implies, not_true_eq_false, reduceCtorEq, tl_s, tl_n, rf_s, List.cons_append, List.nil_append, true_or, or_true, d1]
      refine b_le (by omega) (by omega) (fun cc => ?_) (fun cc => absurd cc (by omega))
      refine B_Law_apart_26 ?_
      simp only [wp_cons, wp_nil, List.getElem?_cons_zero, List.getElem?_cons_succ, List.set_cons_zero, List.set_cons_succ, s_iload, ldI_s, s_ifCond_ge, p1_s, true_and, and_true, Nat.le_refl, true_implies, forall_const, not_false_eq_true, false_implies, not_true_eq_false, reduceCtorEq, tl_s, tl_n, rf_s, List.cons_append, List.nil_append, true_or, or_true, d1]
      refine b_le (by omega) (by omega) (fun cc => ?_) (fun cc => absurd cc (by omega))
      refine B_Law_apart_40 ?_
      simp only [wp_cons, wp_nil, List.getElem?_cons_zero, List.getElem?_cons_succ, List.set_cons_zero, List.set_cons_succ, s_iconst, true_and, and_true, Nat.le_refl, true_implies, forall_const, not_false_eq_true, false_implies, not_true_eq_false, reduceCtorEq, tl_s, tl_n, rf_s, List.cons_append, List.nil_append, true_or, or_true, d1]
      refine B_Law_apart_41 ?_
      simp only [wp_cons, wp_nil, List.getElem?_cons_zero, List.getElem?_cons_succ, List.set_cons_zero, List.set_cons_succ, s_ireturn, p1_s, rI_i, rI_z, rI_c, z_01, z_11, rt_Law_apart, true_and, and_true, Nat.le_refl, true_implies, forall_const, not_false_eq_true, false_implies, not_true_eq_false, reduceCtorEq, tl_s, tl_n, rf_s, List.cons_append, List.nil_append, true_or, or_true, d1]
      exact hF (fun q => by unfold apt at q; omega)
theorem pcr_apt {a b c e : Int} : pcr a b c e = true ↔ apt a b c e ∧ apt c e a b := by
  unfold pcr apt
  rw [Bool.and_eq_true, decide_eq_true_eq, decide_eq_true_eq, mul_neg_iff', mul_neg_iff']
theorem Law_cross_c {d : Nat} (d2 : 2 ≤ d) {a b c e : Int} {h : g_H} {Q : g_Po} (ha : pt a) (hb : pt b) (hc : pt c) (he : pt e) (hT : pcr a b c e = true → Q (some (.int (I 1))) h) (hF : ¬ pcr a b c e = true → Q (some (.int (I 0))) h) : Call Law_cross d 0 0 [.int (I a), .int (I b), .int (I c), .int (I e)] h Q := by
  have d1 : 1 ≤ d := by omega
  refine Call.intro (by rfl) (Nat.le_of_ble_eq_true rfl) ?_
  refine G.eqL (L := [some (.int _), some (.int _), some (.int _), some (.int _)]) rfl ?_
  refine B_Law_cross_0 ?_
  simp only [wp_cons, wp_nil, List.getElem?_cons_zero, List.getElem?_cons_succ, List.set_cons_zero, List.set_cons_succ, s_iload_n0, ldI_s, s_iload_n1, s_iload_n2, s_iload_n3, s_invokestatic, rc_s, ob_s, List.drop_succ_cons, List.drop_zero, List.take_succ_cons, List.take_zero, List.reverse_cons, List.reverse_nil, List.nil_append, List.cons_append, List.length_cons, List.length_nil, Nat.reduceEqDiff, eq_self, reduceIte, p1_s, p2_s, l1_s, d1, Int.reduceToNat, Nat.reduceAdd, Nat.reduceLeDiff, true_and, and_true, Nat.le_refl, true_implies, forall_const, not_false_eq_true, false_implies, not_true_eq_false, reduceCtorEq, tl_s, tl_n, rf_s, true_or, or_true]
  refine Law_apart_c (by omega) ha hb hc he (fun q1 => ?_) (fun q1 => ?_)
  · refine B_Law_cross_7 ?_
    simp only [wp_cons, wp_nil, List.getElem?_cons_zero, List.getElem?_cons_succ, List.set_cons_zero, List.set_cons_succ, s_ifCond_eq, p1_s, true_and, and_true, Nat.le_refl, true_implies, forall_const, not_false_eq_true, false_implies, not_true_eq_false, reduceCtorEq, tl_s, tl_n, rf_s, List.cons_append, List.nil_append, true_or, or_true, d1]
    refine b_eq (by omega) (by omega) (fun cc => absurd cc (by omega)) (fun cc => ?_)
    refine B_Law_cross_10 ?_
    simp only [wp_cons, wp_nil, List.getElem?_cons_zero, List.getElem?_cons_succ, List.set_cons_zero, List.set_cons_succ, s_iload_n2, ldI_s, s_iload_n3, s_iload_n0, s_iload_n1, s_invokestatic, rc_s, ob_s, List.drop_succ_cons, List.drop_zero, List.take_succ_cons, List.take_zero, List.reverse_cons, List.reverse_nil, List.nil_append, List.cons_append, List.length_cons, List.length_nil, Nat.reduceEqDiff, eq_self, reduceIte, p1_s, p2_s, l1_s, d1, Int.reduceToNat, Nat.reduceAdd, Nat.reduceLeDiff, true_and, and_true, Nat.le_refl, true_implies, forall_const, not_false_eq_true, false_implies, not_true_eq_false, reduceCtorEq, tl_s, tl_n, rf_s, true_or, or_true]
    refine Law_apart_c (by omega) hc he ha hb (fun q2 => ?_) (fun q2 => ?_)
    · refine B_Law_cross_17 ?_
      simp only [wp_cons, wp_nil, List.getElem?_cons_zero, List.getElem?_cons_succ, List.set_cons_zero, List.set_cons_succ, s_ifCond_eq, p1_s, true_and, and_true, Nat.le_refl, true_implies, forall_const, not_false_eq_true, false_implies, not_true_eq_false, reduceCtorEq, tl_s, tl_n, rf_s, List.cons_append, List.nil_append, true_or, or_true, d1]
      refine b_eq (by omega) (by omega) (fun cc => absurd cc (by omega)) (fun cc => ?_)
      refine B_Law_cross_20 ?_
      simp only [wp_cons, wp_nil, List.getElem?_cons_zero, List.getElem?_cons_succ, List.set_cons_zero, List.set_cons_succ, s_iconst, s_goto, true_and, and_true, Nat.le_refl, true_implies, forall_const, not_false_eq_true, false_implies, not_true_eq_false, reduceCtorEq, tl_s, tl_n, rf_s, List.cons_append, List.nil_append, true_or, or_true, d1]
      refine B_Law_cross_25 ?_
      simp only [wp_cons, wp_nil, List.getElem?_cons_zero, List.getElem?_cons_succ, List.set_cons_zero, List.set_cons_succ, s_ireturn, p1_s, rI_i, rI_z, rI_c, z_01, z_11, rt_Law_cross, true_and, and_true, Nat.le_refl, true_implies, forall_const, not_false_eq_true, false_implies, not_true_eq_false, reduceCtorEq, tl_s, tl_n, rf_s, List.cons_append, List.nil_append, true_or, or_true, d1]
      exact hT (pcr_apt.mpr ⟨q1, q2⟩)
    · refine B_Law_cross_17 ?_
      simp only [wp_cons, wp_nil, List.getElem?_cons_zero, List.getElem?_cons_succ, List.set_cons_zero, List.set_cons_succ, s_ifCond_eq, p1_s, true_and, and_true, Nat.le_refl, true_implies, forall_const, not_false_eq_true, false_implies, not_true_eq_false, reduceCtorEq, tl_s, tl_n, rf_s, List.cons_append, List.nil_append, true_or, or_true, d1]
      refine B_Law_cross_24 ?_
      simp only [wp_cons, wp_nil, List.getElem?_cons_zero, List.getElem?_cons_succ, List.set_cons_zero, List.set_cons_succ, s_iconst, true_and, and_true, Nat.le_refl, true_implies, forall_const, not_false_eq_true, false_implies, not_true_eq_false, reduceCtorEq, tl_s, tl_n, rf_s, List.cons_append, List.nil_append, true_or, or_true, d1]
      refine B_Law_cross_25 ?_
      simp only [wp_cons, wp_nil, List.getElem?_cons_zero, List.getElem?_cons_succ, List.set_cons_zero, List.set_cons_succ, s_ireturn, p1_s, rI_i, rI_z, rI_c, z_01, z_11, rt_Law_cross, true_and, and_true, Nat.le_refl, true_implies, forall_const, not_false_eq_true, false_implies, not_true_eq_false, reduceCtorEq, tl_s, tl_n, rf_s, List.cons_append, List.nil_append, true_or, or_true, d1]
      exact hF (fun q => q2 (pcr_apt.mp q).2)
  · refine B_Law_cross_7 ?_
    simp only [wp_cons, wp_nil, List.getElem?_cons_zero, List.getElem?_cons_succ, List.set_cons_zero, List.set_cons_succ, s_ifCond_eq, p1_s, true_and, and_true, Nat.le_refl, true_implies, forall_const, not_false_eq_true, false_implies, not_true_eq_false, reduceCtorEq, tl_s, tl_n, rf_s, List.cons_append, List.nil_append, true_or, or_true, d1]
    refine B_Law_cross_24 ?_
    simp only [wp_cons, wp_nil, List.getElem?_cons_zero, List.getElem?_cons_succ, List.set_cons_zero, List.set_cons_succ, s_iconst, true_and, and_true, Nat.le_refl, true_implies, forall_const, not_false_eq_true, false_implies, not_true_eq_false, reduceCtorEq, tl_s, tl_n, rf_s, List.cons_append, List.nil_append, true_or, or_true, d1]
    refine B_Law_cross_25 ?_
    simp only [wp_cons, wp_nil, List.getElem?_cons_zero, List.getElem?_cons_succ, List.set_cons_zero, List.set_cons_succ, s_ireturn, p1_s, rI_i, rI_z, rI_c, z_01, z_11, rt_Law_cross, true_and, and_true, Nat.le_refl, true_implies, forall_const, not_false_eq_true, false_implies, not_true_eq_false, reduceCtorEq, tl_s, tl_n, rf_s, List.cons_append, List.nil_append, true_or, or_true, d1]
    exact hF (fun q => q1 (pcr_apt.mp q).1)
theorem rt_un {n l : Int} (h0 : 0 ≤ n) (h : n < 1073741824) (l0 : 0 ≤ l) (h1 : l * l ≤ n) (h2 : n < (l + 1) * (l + 1)) : l = rt n := by
  obtain ⟨r0, r1, r2, r3⟩ := rt_ok h0 h
  rcases Int.lt_trichotomy l (rt n) with c | c | c
  · have := sq_mono (a := l + 1) (b := rt n) (by omega) (by omega); omega
  · exact c
  · have := sq_mono (a := rt n + 1) (b := l) (by omega) (by omega); omega
theorem Law_root_l {d : Nat} {n : Int} {h : g_H} {Q : g_Po} (hn : 0 ≤ n ∧ n < 225000000) (hQ : Q (some (.int (I (rt n)))) h) : ∀ (m : Nat) (l u : Int) (x3 : Option Value), u - l ≤ m → 0 ≤ l → l < u → u ≤ 15000 → l * l ≤ n → n < u * u → G Law_root d 0 0 0 0 6 [some (.int (I n)), some (.int (I l)), some (.int (I u)), x3] [] h Q := by
  intro m
  induction m with
  | zero => intro l u x3 h1 h2 h3; omega
  | succ m ih =>
    intro l u x3 h1 h2 h3 h4 h5 h6
    by_cases c : u - l ≤ 1
    · refine B_Law_root_6 ?_
      simp only [wp_cons, wp_nil, List.getElem?_cons_zero, List.getElem?_cons_succ, List.set_cons_zero, List.set_cons_succ, s_iload_n2, ldI_s, s_iload_n1, s_isub, p2_s, I_sub, s_iconst, s_if_icmp_le, true_and, and_true, Nat.le_refl, true_implies, forall_const, not_false_eq_true, false_implies, not_true_eq_false, reduceCtorEq, tl_s, tl_n, rf_s, List.cons_append, List.nil_append, true_or, or_true]
      refine b_le (by omega) (by omega) (fun cc => ?_) (fun cc => absurd cc (by omega))
      refine B_Law_root_36 ?_
      simp only [wp_cons, wp_nil, List.getElem?_cons_zero, List.getElem?_cons_succ, List.set_cons_zero, List.set_cons_succ, s_iload_n1, ldI_s, s_ireturn, p1_s, rI_i, rI_z, rI_c, z_01, z_11, rt_Law_root, true_and, and_true, Nat.le_refl, true_implies, forall_const, not_false_eq_true, false_implies, not_true_eq_false, reduceCtorEq, tl_s, tl_n, rf_s, List.cons_append, List.nil_append, true_or, or_true]
      have e : u = l + 1 := by omega
      rw [e] at h6
      rw [← rt_un hn.1 (by omega) h2 h5 h6] at hQ
      exact hQ
    · have e2 : I (l + u) / I 2 = I ((l + u) / 2) := by rw [I_div (by omega) (by omega), Int.tdiv_eq_ediv_of_nonneg (by omega)]
      have b1 := bd_sq ((l + u) / 2)
      have b2 := sq_mono (a := (l + u) / 2) (b := 15000) (by omega) (by omega)
      by_cases c2 : (l + u) / 2 * ((l + u) / 2) ≤ n
      · refine B_Law_root_6 ?_
        simp only [wp_cons, wp_nil, List.getElem?_cons_zero, List.getElem?_cons_succ, List.set_cons_zero, List.set_cons_succ, s_iload_n2, ldI_s, s_iload_n1, s_isub, p2_s, I_sub, s_iconst, s_if_icmp_le, true_and, and_true, Nat.le_refl, true_implies, forall_const, not_false_eq_true, false_implies, not_true_eq_false, reduceCtorEq, tl_s, tl_n, rf_s, List.cons_append, List.nil_append, true_or, or_true, e2]
        refine b_le (by omega) (by omega) (fun cc => absurd cc (by omega)) (fun cc => ?_)
        refine B_Law_root_13 ?_
        simp only [wp_cons, wp_nil, List.getElem?_cons_zero, List.getElem?_cons_succ, List.set_cons_zero, List.set_cons_succ, s_iload_n1, ldI_s, s_iload_n2, s_iadd, p2_s, I_add, s_iconst, s_idiv, ne_k1000, ne_k2, s_istore_n3, p1_s, s1_0, s1_s, kx_i, kx_r, kx_s, kx_n, kx_l, kx_0, s_iload_n3, s_imul, I_mul, s_iload_n0, s_if_icmp_gt, true_and, and_true, Nat.le_refl, true_implies, forall_const, not_false_eq_true, false_implies, not_true_eq_false, reduceCtorEq, tl_s, tl_n, rf_s, List.cons_append, List.nil_append, true_or, or_true, e2]
        refine b_lt (by omega) (by omega) (fun cc => absurd cc (by omega)) (fun cc => ?_)
        refine B_Law_root_26 ?_
        simp only [wp_cons, wp_nil, List.getElem?_cons_zero, List.getElem?_cons_succ, List.set_cons_zero, List.set_cons_succ, s_iload_n3, ldI_s, s_istore_n1, p1_s, s1_0, s1_s, kx_i, kx_r, kx_s, kx_n, kx_l, kx_0, s_goto, true_and, and_true, Nat.le_refl, true_implies, forall_const, not_false_eq_true, false_implies, not_true_eq_false, reduceCtorEq, tl_s, tl_n, rf_s, List.cons_append, List.nil_append, true_or, or_true, e2]
        refine B_Law_root_33 ?_
        simp only [wp_cons, wp_nil, List.getElem?_cons_zero, List.getElem?_cons_succ, List.set_cons_zero, List.set_cons_succ, s_goto, true_and, and_true, Nat.le_refl, true_implies, forall_const, not_false_eq_true, false_implies, not_true_eq_false, reduceCtorEq, tl_s, tl_n, rf_s, List.cons_append, List.nil_append, true_or, or_true, e2]
        exact ih _ _ _ (by omega) (by omega) (by omega) h4 c2 h6
      · refine B_Law_root_6 ?_
        simp only [wp_cons, wp_nil, List.getElem?_cons_zero, List.getElem?_cons_succ, List.set_cons_zero, List.set_cons_succ, s_iload_n2, ldI_s, s_iload_n1, s_isub, p2_s, I_sub, s_iconst, s_if_icmp_le, true_and, and_true, Nat.le_refl, true_implies, forall_const, not_false_eq_true, false_implies, not_true_eq_false, reduceCtorEq, tl_s, tl_n, rf_s, List.cons_append, List.nil_append, true_or, or_true, e2]
        refine b_le (by omega) (by omega) (fun cc => absurd cc (by omega)) (fun cc => ?_)
        refine B_Law_root_13 ?_
        simp only [wp_cons, wp_nil, List.getElem?_cons_zero, List.getElem?_cons_succ, List.set_cons_zero, List.set_cons_succ, s_iload_n1, ldI_s, s_iload_n2, s_iadd, p2_s, I_add, s_iconst, s_idiv, ne_k1000, ne_k2, s_istore_n3, p1_s, s1_0, s1_s, kx_i, kx_r, kx_s, kx_n, kx_l, kx_0, s_iload_n3, s_imul, I_mul, s_iload_n0, s_if_icmp_gt, true_and, and_true, Nat.le_refl, true_implies, forall_const, not_false_eq_true, false_implies, not_true_eq_false, reduceCtorEq, tl_s, tl_n, rf_s, List.cons_append, List.nil_append, true_or, or_true, e2]
        refine b_lt (by omega) (by omega) (fun cc => ?_) (fun cc => absurd cc (by omega))
        refine B_Law_root_31 ?_
        simp only [wp_cons, wp_nil, List.getElem?_cons_zero, List.getElem?_cons_succ, List.set_cons_zero, List.set_cons_succ, s_iload_n3, ldI_s, s_istore_n2, p1_s, s1_0, s1_s, kx_i, kx_r, kx_s, kx_n, kx_l, kx_0, true_and, and_true, Nat.le_refl, true_implies, forall_const, not_false_eq_true, false_implies, not_true_eq_false, reduceCtorEq, tl_s, tl_n, rf_s, List.cons_append, List.nil_append, true_or, or_true, e2]
        refine B_Law_root_33 ?_
        simp only [wp_cons, wp_nil, List.getElem?_cons_zero, List.getElem?_cons_succ, List.set_cons_zero, List.set_cons_succ, s_goto, true_and, and_true, Nat.le_refl, true_implies, forall_const, not_false_eq_true, false_implies, not_true_eq_false, reduceCtorEq, tl_s, tl_n, rf_s, List.cons_append, List.nil_append, true_or, or_true, e2]
        exact ih _ _ _ (by omega) h2 (by omega) (by omega) h5 (by omega)
theorem Law_root_c {d : Nat} {n : Int} {h : g_H} {Q : g_Po} (hn : 0 ≤ n ∧ n < 225000000) (hQ : Q (some (.int (I (rt n)))) h) : Call Law_root d 0 0 [.int (I n)] h Q := by
  refine Call.intro (by rfl) (Nat.le_of_ble_eq_true rfl) ?_
  refine G.eqL (L := [some (.int _), none, none, none]) rfl ?_
  refine B_Law_root_0 ?_
  simp only [wp_cons, wp_nil, List.getElem?_cons_zero, List.getElem?_cons_succ, List.set_cons_zero, List.set_cons_succ, s_iconst, s_istore_n1, p1_s, s1_0, s1_s, kx_i, kx_r, kx_s, kx_n, kx_l, kx_0, s_sipush, s_istore_n2, true_and, and_true, Nat.le_refl, true_implies, forall_const, not_false_eq_true, false_implies, not_true_eq_false, reduceCtorEq, tl_s, tl_n, rf_s, List.cons_append, List.nil_append, true_or, or_true]
  exact Law_root_l hn hQ 15000 0 15000 _ (by omega) (by omega) (by omega) (by omega) (by omega) (by omega)
/-! sets of places as bits -/
theorem I_andN (a b : Nat) : I (a : Int) &&& I (b : Int) = I ((a &&& b : Nat) : Int) := by
  apply Int32.toBitVec_inj.mp
  rw [Int32.toBitVec_and]
  show BitVec.ofInt 32 (a : Int) &&& BitVec.ofInt 32 (b : Int) = BitVec.ofInt 32 ((a &&& b : Nat) : Int)
  rw [BitVec.ofInt_natCast, BitVec.ofInt_natCast, BitVec.ofInt_natCast, BitVec.ofNat_and]
theorem I_orN (a b : Nat) : I (a : Int) ||| I (b : Int) = I ((a ||| b : Nat) : Int) := by
  apply Int32.toBitVec_inj.mp
  rw [Int32.toBitVec_or]
  show BitVec.ofInt 32 (a : Int) ||| BitVec.ofInt 32 (b : Int) = BitVec.ofInt 32 ((a ||| b : Nat) : Int)
  rw [BitVec.ofInt_natCast, BitVec.ofInt_natCast, BitVec.ofInt_natCast, BitVec.ofNat_or]
theorem I_shl1 : ∀ f : Nat, f < 31 → I 1 <<< (I (f : Int) &&& 31) = I ((2 ^ f : Nat) : Int) := by decide +kernel
theorem I_sh31 : ∀ b : Nat, b < 31 → (I (b : Int) &&& 31) = I (b : Int) := by decide +kernel
def tb (m k : Nat) : Int := if m.testBit k = true then 1 else 0
theorem I_bit {m b : Nat} (hm : m < 2147483648) (hb : b < 31) : (I (m : Int) >>> (I (b : Int) &&& 31)) &&& I 1 = I (tb m b) := by
  have e : I (m : Int) = nI m := rfl
  have e3 : I (m : Int) >>> (I (b : Int) &&& 31) = nI (m / 2 ^ b) := by
    rw [e]
    exact pk_shrN (by omega) (I (b : Int) &&& 31) b (by rw [I_sh31 b hb]; revert b; decide +kernel)
  have h4 : m / 2 ^ b ≤ m := Nat.div_le_self _ _
  have e5 : m.testBit b = decide (m / 2 ^ b % 2 = 1) := Nat.testBit_eq_decide_div_mod_eq
  unfold tb
  rw [e3, e5]
  generalize m / 2 ^ b = q at h4
  have e4 : nI q = I (q : Int) := rfl
  rw [e4, I_and1 (by omega) (by omega)]
  congr 1
  by_cases c : q % 2 = 1
  · rw [if_pos (by simpa using c)]; omega
  · rw [if_neg (by simpa using c)]; omega
def pcn (n m : Nat) : Int := match n with
  | 0 => 0
  | n + 1 => ((m % 2 : Nat) : Int) + pcn n (m / 2)
theorem pcn_bd : ∀ n m : Nat, 0 ≤ pcn n m ∧ pcn n m ≤ n := by
  intro n
  induction n with
  | zero => intro m; unfold pcn; omega
  | succ n ih => intro m; have := ih (m / 2); unfold pcn; omega
theorem pcn_step : ∀ n m : Nat, m < 2 ^ n → 1 ≤ m → pcn n m = pcn n (m &&& (m - 1)) + 1 := by
  intro n
  induction n with
  | zero => intro m h1 h2; omega
  | succ n ih =>
    intro m h1 h2
    have e1 : (m &&& (m - 1)) / 2 = m / 2 &&& (m - 1) / 2 := Nat.and_div_two
    have e2 : (m &&& (m - 1)) % 2 = 0 := by
      have := Nat.and_mod_two_pow (a := m) (b := m - 1) (n := 1)
      rw [Nat.pow_one] at this
      rw [this]
      rcases Nat.mod_two_eq_zero_or_one m with h | h
      · rw [h, Nat.zero_and]
      · rw [show (m - 1) % 2 = 0 by omega, Nat.and_zero]
    unfold pcn
    rw [e1, e2]
    rcases Nat.mod_two_eq_zero_or_one m with h | h
    · have e3 : (m - 1) / 2 = m / 2 - 1 := by omega
      rw [e3, ih (m / 2) (by rw [Nat.pow_succ] at h1; omega) (by omega)]
      omega
    · have e3 : (m - 1) / 2 = m / 2 := by omega
      rw [e3, Nat.and_self]
      omega
theorem pcn_0 : ∀ n : Nat, pcn n 0 = 0 := by
  intro n
  induction n with
  | zero => rfl
  | succ n ih => unfold pcn; rw [show 0 / 2 = 0 by rfl, ih]; rfl
theorem Law_count_l {d m : Nat} {h : g_H} {Q : g_Po} (hQ : Q (some (.int (I (pcn 31 m)))) h) : ∀ (j w : Nat) (n : Int), pcn 31 w ≤ j → w < 2147483648 → 0 ≤ n → n + pcn 31 w = pcn 31 m → G Law_count d 0 0 0 0 4 [some (.int (I (m : Int))), some (.int (I n)), some (.int (I (w : Int)))] [] h Q := by
  intro j
  have b0 := pcn_bd 31 m
  induction j with
  | zero =>
    intro w n h1 h2 h3 h4
    by_cases c : w = 0
    · subst c
      rw [pcn_0, Int.add_zero] at h4
      refine B_Law_count_4 ?_
      simp only [wp_cons, wp_nil, List.getElem?_cons_zero, List.getElem?_cons_succ, List.set_cons_zero, List.set_cons_succ, s_iload_n2, ldI_s, s_ifCond_eq, p1_s, true_and, and_true, Nat.le_refl, true_implies, forall_const, not_false_eq_true, false_implies, not_true_eq_false, reduceCtorEq, tl_s, tl_n, rf_s, List.cons_append, List.nil_append, true_or, or_true]
      refine b_eq (by omega) (by omega) (fun cc => ?_) (fun cc => absurd cc (by omega))
      refine B_Law_count_20 ?_
      simp only [wp_cons, wp_nil, List.getElem?_cons_zero, List.getElem?_cons_succ, List.set_cons_zero, List.set_cons_succ, s_iload_n1, ldI_s, s_ireturn, p1_s, rI_i, rI_z, rI_c, z_01, z_11, rt_Law_count, true_and, and_true, Nat.le_refl, true_implies, forall_const, not_false_eq_true, false_implies, not_true_eq_false, reduceCtorEq, tl_s, tl_n, rf_s, List.cons_append, List.nil_append, true_or, or_true]
      rw [h4]
      exact hQ
    · have := pcn_step 31 w (by omega) (by omega)
      have := pcn_bd 31 (w &&& (w - 1))
      omega
  | succ j ih =>
    intro w n h1 h2 h3 h4
    by_cases c : w = 0
    · subst c
      rw [pcn_0, Int.add_zero] at h4
      refine B_Law_count_4 ?_
      simp only [wp_cons, wp_nil, List.getElem?_cons_zero, List.getElem?_cons_succ, List.set_cons_zero, List.set_cons_succ, s_iload_n2, ldI_s, s_ifCond_eq, p1_s, true_and, and_true, Nat.le_refl, true_implies, forall_const, not_false_eq_true, false_implies, not_true_eq_false, reduceCtorEq, tl_s, tl_n, rf_s, List.cons_append, List.nil_append, true_or, or_true]
      refine b_eq (by omega) (by omega) (fun cc => ?_) (fun cc => absurd cc (by omega))
      refine B_Law_count_20 ?_
      simp only [wp_cons, wp_nil, List.getElem?_cons_zero, List.getElem?_cons_succ, List.set_cons_zero, List.set_cons_succ, s_iload_n1, ldI_s, s_ireturn, p1_s, rI_i, rI_z, rI_c, z_01, z_11, rt_Law_count, true_and, and_true, Nat.le_refl, true_implies, forall_const, not_false_eq_true, false_implies, not_true_eq_false, reduceCtorEq, tl_s, tl_n, rf_s, List.cons_append, List.nil_append, true_or, or_true]
      rw [h4]
      exact hQ
    · have h5 := pcn_step 31 w (by omega) (by omega)
      have h6 : w &&& (w - 1) ≤ w := Nat.and_le_left
      have b1 := pcn_bd 31 (w &&& (w - 1))
      have e : I (w : Int) &&& I ((w : Int) - 1) = I ((w &&& (w - 1) : Nat) : Int) := by
        rw [← I_andN, show ((w : Int) - 1) = ((w - 1 : Nat) : Int) by omega]
      refine B_Law_count_4 ?_
      simp only [wp_cons, wp_nil, List.getElem?_cons_zero, List.getElem?_cons_succ, List.set_cons_zero, List.set_cons_succ, s_iload_n2, ldI_s, s_ifCond_eq, p1_s, true_and, and_true, Nat.le_refl, true_implies, forall_const, not_false_eq_true, false_implies, not_true_eq_false, reduceCtorEq, tl_s, tl_n, rf_s, List.cons_append, List.nil_append, true_or, or_true, e]
      refine b_eq (by omega) (by omega) (fun cc => absurd cc (by omega)) (fun cc => ?_)
      refine B_Law_count_8 ?_
      simp only [wp_cons, wp_nil, List.getElem?_cons_zero, List.getElem?_cons_succ, List.set_cons_zero, List.set_cons_succ, s_iinc, ldI_s, s1_0, s1_s, kx_i, kx_r, kx_s, kx_n, kx_l, kx_0, I_add, s_iload_n2, s_iconst, s_isub, p2_s, I_sub, s_iand, s_istore_n2, p1_s, s_goto, true_and, and_true, Nat.le_refl, true_implies, forall_const, not_false_eq_true, false_implies, not_true_eq_false, reduceCtorEq, tl_s, tl_n, rf_s, List.cons_append, List.nil_append, true_or, or_true, e]
      exact ih (w &&& (w - 1)) (n + 1) (by omega) (by omega) (by omega) (by omega)
theorem Law_count_c {d m : Nat} {h : g_H} {Q : g_Po} (hm : m < 2147483648) (hQ : Q (some (.int (I (pcn 31 m)))) h) : Call Law_count d 0 0 [.int (I (m : Int))] h Q := by
  refine Call.intro (by rfl) (Nat.le_of_ble_eq_true rfl) ?_
  refine G.eqL (L := [some (.int _), none, none]) rfl ?_
  refine B_Law_count_0 ?_
  simp only [wp_cons, wp_nil, List.getElem?_cons_zero, List.getElem?_cons_succ, List.set_cons_zero, List.set_cons_succ, s_iconst, s_istore_n1, p1_s, s1_0, s1_s, kx_i, kx_r, kx_s, kx_n, kx_l, kx_0, s_iload_n0, ldI_s, s_istore_n2, true_and, and_true, Nat.le_refl, true_implies, forall_const, not_false_eq_true, false_implies, not_true_eq_false, reduceCtorEq, tl_s, tl_n, rf_s, List.cons_append, List.nil_append, true_or, or_true]
  exact Law_count_l hQ 31 m 0 (pcn_bd 31 m).2 hm (by omega) (by omega)
/-! the script -/
theorem Law_cell_c {d : Nat} {k : Int} {h : g_H} {Q : g_Po} (hk : 0 ≤ k ∧ k ≤ 1000) (hQ : ∀ x : Int32, Q (some (.int x)) h) : Call Law_cell d 0 0 [.retAddr 0, .int (I k)] h Q := by
  refine Call.intro (by rfl) (Nat.le_of_ble_eq_true rfl) ?_
  refine G.eqL (L := [some (.retAddr 0), some (.int (I k))]) rfl ?_
  have g21 : ∀ x : Int32, G Law_cell d 0 0 0 0 21 [some (.retAddr 0), some (.int (I k))] [.int x] h Q := by
    intro x
    refine B_Law_cell_21 ?_
    simp only [wp_cons, wp_nil, List.getElem?_cons_zero, List.getElem?_cons_succ, List.set_cons_zero, List.set_cons_succ, s_ireturn, p1_s, rI_i, rI_z, rI_c, z_01, z_11, rt_Law_cell, true_and, and_true, Nat.le_refl, true_implies, forall_const, not_false_eq_true, false_implies, not_true_eq_false, reduceCtorEq, tl_s, tl_n, rf_s, List.cons_append, List.nil_append, true_or, or_true]
    exact hQ x
  have g12 : G Law_cell d 0 0 0 0 12 [some (.retAddr 0), some (.int (I k))] [] h Q := by
    refine B_Law_cell_12 ?_
    simp only [wp_cons, wp_nil, List.getElem?_cons_zero, List.getElem?_cons_succ, List.set_cons_zero, List.set_cons_succ, s_ldc, s_iload_n1, ldI_s, s_iconst, s_iadd, p2_s, I_add, s_imul, I_mul, true_and, and_true, Nat.le_refl, true_implies, forall_const, not_false_eq_true, false_implies, not_true_eq_false, reduceCtorEq, tl_s, tl_n, rf_s, List.cons_append, List.nil_append, true_or, or_true]
    refine B_Law_cell_21 ?_
    simp only [wp_cons, wp_nil, List.getElem?_cons_zero, List.getElem?_cons_succ, List.set_cons_zero, List.set_cons_succ, s_ireturn, p1_s, rI_i, rI_z, rI_c, z_01, z_11, rt_Law_cell, true_and, and_true, Nat.le_refl, true_implies, forall_const, not_false_eq_true, false_implies, not_true_eq_false, reduceCtorEq, tl_s, tl_n, rf_s, List.cons_append, List.nil_append, true_or, or_true]
    exact hQ _
  intro p l e s m args below meth c B D cA H locs ls hC hH hS hL
  obtain ⟨hx, hb, hml, hr, hown, hts, hlk, hnm, hKK, hBs⟩ := id hC
  obtain ⟨hb0, scr, xs, s1, s2, s3, s4, s5, s6⟩ := hH.2.2
  have arr : s.isArrayOf scr .int := ⟨s3, by rw [s2]; exact (hKK.2.2.2 0 (fun _ => .null)).2⟩
  refine lv_iload_n hx hb (show decode (g_m Law_cell).2.1 0 = .ok (.iload_n 1, 1) by decide +kernel) rfl (hL.2.2 1 (.int (I k)) rfl) ?_
  refine lv_aload_n hx hb (show decode (g_m Law_cell).2.1 1 = .ok (.aload_n 0, 1) by decide +kernel) rfl (hL.2.2 0 (.retAddr 0) rfl) ?_
  refine W.alen (n := I (scr.slots.size : Int)) hx hb s1 arr rfl rfl rfl (show decode (g_m Law_cell).2.1 2 = .ok (.arraylength, 1) by decide +kernel) ?_
  refine lv_icmp_ge (tgt := 12) hx hb (show decode (g_m Law_cell).2.1 3 = .ok (.if_icmp .ge 9, 3) by decide +kernel) (by rfl) (fun q => ?_) (fun q => ?_)
  · exact g12 p l e s m args below meth c B D cA H locs ls hC hH hS hL
  · have hlt : k < scr.slots.size := by
      rw [I_le (by omega) (by omega)] at q
      omega
    obtain ⟨j, rfl, hj⟩ := nat_of (n := scr.slots.size) ⟨hk.1, hlt⟩
    obtain ⟨i1, i2⟩ := I_in (n := scr.slots.size) (j := j) ⟨hj, by omega⟩
    refine lv_aload_n hx hb (show decode (g_m Law_cell).2.1 6 = .ok (.aload_n 0, 1) by decide +kernel) rfl (hL.2.2 0 (.retAddr 0) rfl) ?_
    refine lv_iload_n hx hb (show decode (g_m Law_cell).2.1 7 = .ok (.iload_n 1, 1) by decide +kernel) rfl (hL.2.2 1 (.int (I (j : Int))) rfl) ?_
    refine W.iald (v := .int (xs j)) hx hb s1 arr s4 i1 (by rw [i2]; exact s6 j hj) rfl rfl (show decode (g_m Law_cell).2.1 8 = .ok (.iaload, 1) by decide +kernel) ?_
    refine lv_goto (tgt := 21) hx hb (show decode (g_m Law_cell).2.1 9 = .ok (.goto 12, 3) by decide +kernel) (by rfl) ?_
    exact g21 (xs j) p l e s m args below meth c B D cA H locs ls hC hH hS hL
/-! ===== the law's arrays and the points of a stroke in them ===== -/
/-- what stands behind the object's cells and is not the cell a is as it was -/
def un (a : Nat) (h h' : g_H) : Prop := h'.length = h.length ∧ ∀ b, 208 ≤ b → b ≠ a → h'[b]? = h[b]?
theorem un.rf {a : Nat} {h : g_H} : un a h h := ⟨rfl, fun _ _ _ => rfl⟩
theorem un.tr {a : Nat} {h h' h'' : g_H} (x : un a h h') (y : un a h' h'') : un a h h'' := ⟨y.1.trans x.1, fun b h1 h2 => (y.2 b h1 h2).trans (x.2 b h1 h2)⟩
theorem un.st {a : Nat} {h : g_H} (v : g_C) : un a h (h.set a v) := ⟨List.length_set, fun b _ h2 => List.getElem?_set_ne (fun q => h2 q.symm)⟩
theorem chg.un {a : Nat} {h h' : g_H} (c : chg 0 (0 + 208) h h') : un a h h' := ⟨c.1, fun b h1 _ => c.2 b (by omega)⟩
/-- an array of n ints -/
def ary (h : g_H) (a n : Nat) (f : Nat → Int) : Prop := h[a]? = some (.inl (0, n, fun i => I (f i)))
theorem ary.un {h h' : g_H} {a b n : Nat} {f : Nat → Int} (q : ary h a n f) (c : un b h h') (ha : 208 ≤ a) (hab : a ≠ b) : ary h' a n f := (c.2 a ha hab).trans q
theorem ary.st {h : g_H} {a n i : Nat} {f : Nat → Int} {v : Int} (q : ary h a n f) : ary (h.set a (.inl (0, n, upd (fun i => I (f i)) i (I v)))) a n (ui f i v) := by
  show (h.set a _)[a]? = _
  rw [h_at _ q, upd_ui]
theorem pens.st {h : g_H} {a : Nat} {W : Wd} (v : g_C) (q : pens h 0 W) (ha : 208 ≤ a) : pens (h.set a v) 0 W := q.kp (lo := a) (hi := a + 1) (chg.set v (by omega)) (by omega)
theorem pens.cl {h : g_H} {P : Nat} {W : Wd} (q : pens h P W) : ∃ fs, h[P]? = some (.inr (.inr (6, fs))) := by
  obtain ⟨σ, q⟩ := q
  exact ⟨_, q.1⟩
/-- the points of a stroke, its first one once more behind the last -/
def tkn (S : Stk) (f : Nat → Int) : Prop := (∀ k, k < S.1.length → f k = pg S.1 k) ∧ f S.1.length = pg S.1 0
theorem sp_of_0 {W : Wd} {s : Nat} (hs : s < W.1.1.length) : (sp_of W s 0).1 = (sg W.1.1 s).1.length := by
  unfold sp_of
  rw [if_neg (fun q => q ⟨by omega, by omega⟩), if_neg (fun q => q (by omega)), tn_i]
  rfl
theorem sp_of_k {W : Wd} {s k : Nat} (hs : s < W.1.1.length) (hk : k < 10) : (sp_of W s k).1 = figS (sg W.1.1 s) k := by
  unfold sp_of
  rw [if_neg (fun q => q ⟨by omega, by omega⟩), if_neg (fun q => q (by omega)), tn_i, tn_i]
theorem sp_point_k {W : Wd} {s k : Nat} (hs : s < W.1.1.length) (hk : k < (sg W.1.1 s).1.length) : (sp_point W s k).1 = pg (sg W.1.1 s).1 k := by
  unfold sp_point
  rw [if_neg, tn_i, tn_i]
  rw [tn_i]
  exact fun q => q ⟨⟨by omega, by omega⟩, by omega, by omega⟩
theorem Law_take_l {d a s : Nat} (hd : 9 ≤ d) {W : Wd} {h0 : g_H} {Q : g_Po} (w : wfW W) (hs : s < W.1.1.length) (ha : 208 ≤ a) (hQ : ∀ h' f', un a h0 h' → pens h' 0 W → ary h' a 32 f' → tkn (sg W.1.1 s) f' → Q (some (.int (I ((sg W.1.1 s).1.length : Int)))) h') : ∀ (m k : Nat) (h : g_H) (f : Nat → Int), k + m = (sg W.1.1 s).1.length → un a h0 h → pens h 0 W → ary h a 32 f → (∀ i, i < k → f i = pg (sg W.1.1 s).1 i) →
    G Law_take d 0 0 0 0 10 [some (.ref 0), some (.int (I (s : Int))), some (.ref a), some (.int (I ((sg W.1.1 s).1.length : Int))), some (.int (I (k : Int)))] [] h Q := by
  have d1 : 1 ≤ d := by omega
  have wl : W.1.1.length ≤ 10 := w.1.1.1
  obtain ⟨w1, w2, w3, w4, w5⟩ := w.1.1.2 s hs
  intro m
  induction m with
  | zero =>
    intro k h f hk c hp har hf
    obtain rfl : k = (sg W.1.1 s).1.length := by omega
    have har' : h[a]? = some (.inl (0, 32, fun i => I (f i))) := har
    refine B_Law_take_10 ?_
    simp only [wp_cons, wp_nil, List.getElem?_cons_zero, List.getElem?_cons_succ, List.set_cons_zero, List.set_cons_succ, s_iload, ldI_s, s_iload_n3, s_if_icmp_ge, p2_s, true_and, and_true, Nat.le_refl, true_implies, forall_const, not_false_eq_true, false_implies, not_true_eq_false, reduceCtorEq, tl_s, tl_n, rf_s, List.cons_append, List.nil_append, true_or, or_true, har', ex_ix (i := (sg W.1.1 s).1.length) (n := 32) (by omega), ex_ie (x := 0) (i := 0) (n := 32) rfl (by omega)]
    refine b_le (by omega) (by omega) (fun cc => ?_) (fun cc => absurd cc (by omega))
    refine B_Law_take_33 ?_
    simp only [wp_cons, wp_nil, List.getElem?_cons_zero, List.getElem?_cons_succ, List.set_cons_zero, List.set_cons_succ, s_aload_n2, ldA_r, ldA_n, ldA_s, s_iload_n3, ldI_s, s_iconst, s_iaload, iR_s, ia_s, s_iastore, iiR_s, s_ireturn, p1_s, rI_i, rI_z, rI_c, z_01, z_11, rt_Law_take, true_and, and_true, Nat.le_refl, true_implies, forall_const, not_false_eq_true, false_implies, not_true_eq_false, reduceCtorEq, tl_s, tl_n, rf_s, List.cons_append, List.nil_append, true_or, or_true, har', ex_ix (i := (sg W.1.1 s).1.length) (n := 32) (by omega), ex_ie (x := 0) (i := 0) (n := 32) rfl (by omega)]
    refine hQ _ _ (c.tr (un.st _)) (hp.st _ ha) har.st ⟨fun k hk => ?_, ?_⟩
    · rw [ui_n _ _ (show ¬ k = (sg W.1.1 s).1.length by omega)]; exact hf k hk
    · rw [ui_s]; exact hf 0 (by omega)
  | succ m ih =>
    intro k h f hk c hp har hf
    obtain ⟨fs, hc⟩ := hp.cl
    have har' : h[a]? = some (.inl (0, 32, fun i => I (f i))) := har
    refine B_Law_take_10 ?_
    simp only [wp_cons, wp_nil, List.getElem?_cons_zero, List.getElem?_cons_succ, List.set_cons_zero, List.set_cons_succ, s_iload, ldI_s, s_iload_n3, s_if_icmp_ge, p2_s, true_and, and_true, Nat.le_refl, true_implies, forall_const, not_false_eq_true, false_implies, not_true_eq_false, reduceCtorEq, tl_s, tl_n, rf_s, List.cons_append, List.nil_append, true_or, or_true, hc, har', ex_ix (i := k) (n := 32) (by omega)]
    refine b_le (by omega) (by omega) (fun cc => absurd cc (by omega)) (fun cc => ?_)
    refine B_Law_take_16 ?_
    simp only [wp_cons, wp_nil, List.getElem?_cons_zero, List.getElem?_cons_succ, List.set_cons_zero, List.set_cons_succ, s_aload_n2, ldA_r, ldA_n, ldA_s, s_iload, ldI_s, s_aload_n0, s_iload_n1, s_invokevirtual, rc_s, ob_s, List.drop_succ_cons, List.drop_zero, List.take_succ_cons, List.take_zero, List.reverse_cons, List.reverse_nil, List.nil_append, List.cons_append, List.length_cons, List.length_nil, d1, Int.reduceToNat, Nat.reduceAdd, Nat.reduceLeDiff, true_and, and_true, Nat.le_refl, true_implies, forall_const, not_false_eq_true, false_implies, not_true_eq_false, reduceCtorEq, tl_s, tl_n, rf_s, true_or, or_true, hc, har', ex_ix (i := k) (n := 32) (by omega)]
    refine Pens_point_c (by omega) w hp (by omega) (by omega) ?_
    rw [sp_point_k hs (by omega)]
    refine B_Law_take_26 ?_
    simp only [wp_cons, wp_nil, List.getElem?_cons_zero, List.getElem?_cons_succ, List.set_cons_zero, List.set_cons_succ, s_iastore, iiR_s, ia_s, s_iinc, ldI_s, s1_0, s1_s, kx_i, kx_r, kx_s, kx_n, kx_l, kx_0, I_add, s_goto, true_and, and_true, Nat.le_refl, true_implies, forall_const, not_false_eq_true, false_implies, not_true_eq_false, reduceCtorEq, tl_s, tl_n, rf_s, List.cons_append, List.nil_append, true_or, or_true, hc, har', ex_ix (i := k) (n := 32) (by omega)]
    refine ih (k + 1) _ _ (by omega) (c.tr (un.st _)) (hp.st _ ha) har.st (fun i hi => ?_)
    by_cases e : i = k
    · rw [e, ui_s]
    · rw [ui_n _ _ e]; exact hf i (by omega)
theorem Law_take_c {d a s : Nat} (hd : 9 ≤ d) {W : Wd} {h : g_H} {Q : g_Po} {f : Nat → Int} (w : wfW W) (hp : pens h 0 W) (hs : s < W.1.1.length) (ha : 208 ≤ a) (har : ary h a 32 f) (hQ : ∀ h' f', un a h h' → pens h' 0 W → ary h' a 32 f' → tkn (sg W.1.1 s) f' → Q (some (.int (I ((sg W.1.1 s).1.length : Int)))) h') : Call Law_take d 0 0 [.ref 0, .int (I (s : Int)), .ref a] h Q := by
  have d1 : 1 ≤ d := by omega
  have wl : W.1.1.length ≤ 10 := w.1.1.1
  obtain ⟨fs, hc⟩ := hp.cl
  refine Call.intro (by rfl) (Nat.le_of_ble_eq_true rfl) ?_
  refine G.eqL (L := [some (.ref _), some (.int _), some (.ref _), none, none]) rfl ?_
  refine B_Law_take_0 ?_
  simp only [wp_cons, wp_nil, List.getElem?_cons_zero, List.getElem?_cons_succ, List.set_cons_zero, List.set_cons_succ, s_aload_n0, ldA_r, ldA_n, ldA_s, s_iload_n1, ldI_s, s_iconst, s_invokevirtual, rc_s, ob_s, List.drop_succ_cons, List.drop_zero, List.take_succ_cons, List.take_zero, List.reverse_cons, List.reverse_nil, List.nil_append, List.cons_append, List.length_cons, List.length_nil, d1, Int.reduceToNat, Nat.reduceAdd, Nat.reduceLeDiff, true_and, and_true, Nat.le_refl, true_implies, forall_const, not_false_eq_true, false_implies, not_true_eq_false, reduceCtorEq, tl_s, tl_n, rf_s, true_or, or_true, hc]
  refine Pens_of_c (by omega) w hp (by omega) (by omega) ?_
  rw [sp_of_0 hs]
  refine B_Law_take_6 ?_
  simp only [wp_cons, wp_nil, List.getElem?_cons_zero, List.getElem?_cons_succ, List.set_cons_zero, List.set_cons_succ, s_istore_n3, p1_s, s1_0, s1_s, kx_i, kx_r, kx_s, kx_n, kx_l, kx_0, s_iconst, s_istore, true_and, and_true, Nat.le_refl, true_implies, forall_const, not_false_eq_true, false_implies, not_true_eq_false, reduceCtorEq, tl_s, tl_n, rf_s, List.cons_append, List.nil_append, true_or, or_true, hc]
  exact Law_take_l hd w hs ha hQ (sg W.1.1 s).1.length 0 h f (by omega) un.rf hp har (fun i hi => by omega)
