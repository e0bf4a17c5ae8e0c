/-! ===== the reference: the text's keys, what was wrong, undo, the digest ===== -/
/-! blocks of Model_type -/
theorem ml_Model_type : (g_m Model_type).2.2.1 = 2 := rfl
theorem rt_Model_type : (g_m Model_type).2.2.2.1 = (some .int) := rfl
theorem B_Model_type_0 {d mc ms cs ss : Nat} {L : List (Option Value)} {st : List Value} {h : g_H} {Q : g_Po} (hw : g_wp Model_type d mc ms Q 8 [(0, 1, 0, 0, 0, 0, .iload_n 1), (1, 2, 0, 0, 0, 33, .bipush 33), (3, 2, 0, 0, 0, 126, .bipush 126), (5, 3, 108, 0, 3219, 3, .invokestatic 45)] cs ss L st h) : G Model_type d mc ms cs ss 0 L st h Q := G.run (by decide +kernel) hw
theorem B_Model_type_8 {d mc ms cs ss : Nat} {L : List (Option Value)} {st : List Value} {h : g_H} {Q : g_Po} (hw : g_wp Model_type d mc ms Q 11 [(8, 3, 14, 0, 0, 0, .ifCond .ne 6)] cs ss L st h) : G Model_type d mc ms cs ss 8 L st h Q := G.run (by decide +kernel) hw
theorem B_Model_type_11 {d mc ms cs ss : Nat} {L : List (Option Value)} {st : List Value} {h : g_H} {Q : g_Po} (hw : g_wp Model_type d mc ms Q 14 [(11, 2, 0, 0, 0, (-2), .bipush (-2)), (13, 1, 0, 0, 0, 0, .ireturn)] cs ss L st h) : G Model_type d mc ms cs ss 11 L st h Q := G.run (by decide +kernel) hw
theorem B_Model_type_14 {d mc ms cs ss : Nat} {L : List (Option Value)} {st : List Value} {h : g_H} {Q : g_Po} (hw : g_wp Model_type d mc ms Q 23 [(14, 1, 0, 0, 0, 0, .aload_n 0), (15, 3, 7, 5, 3150, 0, .getfield 238), (18, 2, 0, 0, 0, 80, .bipush 80), (20, 3, 26, 0, 0, 0, .if_icmp .ne 6)] cs ss L st h) : G Model_type d mc ms cs ss 14 L st h Q := G.run (by decide +kernel) hw
theorem B_Model_type_23 {d mc ms cs ss : Nat} {L : List (Option Value)} {st : List Value} {h : g_H} {Q : g_Po} (hw : g_wp Model_type d mc ms Q 26 [(23, 2, 0, 0, 0, (-4), .bipush (-4)), (25, 1, 0, 0, 0, 0, .ireturn)] cs ss L st h) : G Model_type d mc ms cs ss 23 L st h Q := G.run (by decide +kernel) hw
theorem B_Model_type_26 {d mc ms cs ss : Nat} {L : List (Option Value)} {st : List Value} {h : g_H} {Q : g_Po} (hw : g_wp Model_type d mc ms Q 51 [(26, 1, 0, 0, 0, 0, .aload_n 0), (27, 3, 7, 4, 3149, 2, .getfield 19), (30, 1, 0, 0, 0, 0, .aload_n 0), (31, 3, 7, 5, 3150, 0, .getfield 238), (34, 1, 0, 0, 0, 0, .iload_n 1), (35, 1, 0, 0, 0, 0, .iastore), (36, 1, 0, 0, 0, 0, .aload_n 0), (37, 1, 0, 0, 0, 0, .dup), (38, 3, 7, 5, 3150, 0, .getfield 238), (41, 1, 0, 0, 0, 1, .iconst 1), (42, 1, 0, 0, 0, 0, .iadd), (43, 3, 7, 5, 3150, 0, .putfield 238), (46, 1, 0, 0, 0, 0, .aload_n 0), (47, 3, 7, 5, 3150, 0, .getfield 238), (50, 1, 0, 0, 0, 0, .ireturn)] cs ss L st h) : G Model_type d mc ms cs ss 26 L st h Q := G.run (by decide +kernel) hw
/-! blocks of Model_clearText -/
theorem ml_Model_clearText : (g_m Model_clearText).2.2.1 = 2 := rfl
theorem rt_Model_clearText : (g_m Model_clearText).2.2.2.1 = (some .int) := rfl
theorem B_Model_clearText_0 {d mc ms cs ss : Nat} {L : List (Option Value)} {st : List Value} {h : g_H} {Q : g_Po} (hw : g_wp Model_clearText d mc ms Q 12 [(0, 1, 0, 0, 0, 0, .aload_n 0), (1, 3, 7, 5, 3150, 0, .getfield 238), (4, 1, 0, 0, 0, 0, .istore_n 1), (5, 1, 0, 0, 0, 0, .aload_n 0), (6, 1, 0, 0, 0, 0, .iconst 0), (7, 3, 7, 5, 3150, 0, .putfield 238), (10, 1, 0, 0, 0, 0, .iload_n 1), (11, 1, 0, 0, 0, 0, .ireturn)] cs ss L st h) : G Model_clearText d mc ms cs ss 0 L st h Q := G.run (by decide +kernel) hw
/-! blocks of Model_character -/
theorem ml_Model_character : (g_m Model_character).2.2.1 = 2 := rfl
theorem rt_Model_character : (g_m Model_character).2.2.2.1 = (some .int) := rfl
theorem B_Model_character_0 {d mc ms cs ss : Nat} {L : List (Option Value)} {st : List Value} {h : g_H} {Q : g_Po} (hw : g_wp Model_character d mc ms Q 8 [(0, 1, 0, 0, 0, 0, .iload_n 1), (1, 1, 0, 0, 0, 0, .aload_n 0), (2, 3, 7, 5, 3150, 0, .getfield 238), (5, 3, 17, 0, 0, 0, .if_icmp .ge 12)] cs ss L st h) : G Model_character d mc ms cs ss 0 L st h Q := G.run (by decide +kernel) hw
theorem B_Model_character_8 {d mc ms cs ss : Nat} {L : List (Option Value)} {st : List Value} {h : g_H} {Q : g_Po} (hw : g_wp Model_character d mc ms Q 17 [(8, 1, 0, 0, 0, 0, .aload_n 0), (9, 3, 7, 4, 3149, 2, .getfield 19), (12, 1, 0, 0, 0, 0, .iload_n 1), (13, 1, 0, 0, 0, 0, .iaload), (14, 3, 18, 0, 0, 0, .goto 4)] cs ss L st h) : G Model_character d mc ms cs ss 8 L st h Q := G.run (by decide +kernel) hw
theorem B_Model_character_17 {d mc ms cs ss : Nat} {L : List (Option Value)} {st : List Value} {h : g_H} {Q : g_Po} (hw : g_wp Model_character d mc ms Q 18 [(17, 1, 0, 0, 0, (-1), .iconst (-1))] cs ss L st h) : G Model_character d mc ms cs ss 17 L st h Q := G.run (by decide +kernel) hw
theorem B_Model_character_18 {d mc ms cs ss : Nat} {L : List (Option Value)} {st : List Value} {h : g_H} {Q : g_Po} (hw : g_wp Model_character d mc ms Q 19 [(18, 1, 0, 0, 0, 0, .ireturn)] cs ss L st h) : G Model_character d mc ms cs ss 18 L st h Q := G.run (by decide +kernel) hw
/-! blocks of Model_isNext -/
theorem ml_Model_isNext : (g_m Model_isNext).2.2.1 = 3 := rfl
theorem rt_Model_isNext : (g_m Model_isNext).2.2.2.1 = (some .boolean) := rfl
theorem B_Model_isNext_0 {d mc ms cs ss : Nat} {L : List (Option Value)} {st : List Value} {h : g_H} {Q : g_Po} (hw : g_wp Model_isNext d mc ms Q 8 [(0, 1, 0, 0, 0, 0, .aload_n 0), (1, 1, 0, 0, 0, 0, .aload_n 0), (2, 3, 7, 15, 3160, 0, .getfield 241), (5, 3, 189, 7, 5055, 1, .invokevirtual 244)] cs ss L st h) : G Model_isNext d mc ms cs ss 0 L st h Q := G.run (by decide +kernel) hw
theorem B_Model_isNext_8 {d mc ms cs ss : Nat} {L : List (Option Value)} {st : List Value} {h : g_H} {Q : g_Po} (hw : g_wp Model_isNext d mc ms Q 12 [(8, 1, 0, 0, 0, 0, .iload_n 1), (9, 3, 16, 0, 0, 0, .if_icmp .ne 7)] cs ss L st h) : G Model_isNext d mc ms cs ss 8 L st h Q := G.run (by decide +kernel) hw
theorem B_Model_isNext_12 {d mc ms cs ss : Nat} {L : List (Option Value)} {st : List Value} {h : g_H} {Q : g_Po} (hw : g_wp Model_isNext d mc ms Q 16 [(12, 1, 0, 0, 0, 1, .iconst 1), (13, 3, 17, 0, 0, 0, .goto 4)] cs ss L st h) : G Model_isNext d mc ms cs ss 12 L st h Q := G.run (by decide +kernel) hw
theorem B_Model_isNext_16 {d mc ms cs ss : Nat} {L : List (Option Value)} {st : List Value} {h : g_H} {Q : g_Po} (hw : g_wp Model_isNext d mc ms Q 17 [(16, 1, 0, 0, 0, 0, .iconst 0)] cs ss L st h) : G Model_isNext d mc ms cs ss 16 L st h Q := G.run (by decide +kernel) hw
theorem B_Model_isNext_17 {d mc ms cs ss : Nat} {L : List (Option Value)} {st : List Value} {h : g_H} {Q : g_Po} (hw : g_wp Model_isNext d mc ms Q 27 [(17, 1, 0, 0, 0, 0, .istore_n 2), (18, 1, 0, 0, 0, 0, .aload_n 0), (19, 1, 0, 0, 0, 0, .dup), (20, 3, 7, 15, 3160, 0, .getfield 241), (23, 1, 0, 0, 0, 0, .iload_n 2), (24, 3, 31, 0, 0, 0, .ifCond .eq 7)] cs ss L st h) : G Model_isNext d mc ms cs ss 17 L st h Q := G.run (by decide +kernel) hw
theorem B_Model_isNext_27 {d mc ms cs ss : Nat} {L : List (Option Value)} {st : List Value} {h : g_H} {Q : g_Po} (hw : g_wp Model_isNext d mc ms Q 31 [(27, 1, 0, 0, 0, 1, .iconst 1), (28, 3, 32, 0, 0, 0, .goto 4)] cs ss L st h) : G Model_isNext d mc ms cs ss 27 L st h Q := G.run (by decide +kernel) hw
theorem B_Model_isNext_31 {d mc ms cs ss : Nat} {L : List (Option Value)} {st : List Value} {h : g_H} {Q : g_Po} (hw : g_wp Model_isNext d mc ms Q 32 [(31, 1, 0, 0, 0, 0, .iconst 0)] cs ss L st h) : G Model_isNext d mc ms cs ss 31 L st h Q := G.run (by decide +kernel) hw
theorem B_Model_isNext_32 {d mc ms cs ss : Nat} {L : List (Option Value)} {st : List Value} {h : g_H} {Q : g_Po} (hw : g_wp Model_isNext d mc ms Q 38 [(32, 1, 0, 0, 0, 0, .iadd), (33, 3, 7, 15, 3160, 0, .putfield 241), (36, 1, 0, 0, 0, 0, .iload_n 2), (37, 1, 0, 0, 0, 0, .ireturn)] cs ss L st h) : G Model_isNext d mc ms cs ss 32 L st h Q := G.run (by decide +kernel) hw
/-! blocks of Model_readsNumber -/
theorem ml_Model_readsNumber : (g_m Model_readsNumber).2.2.1 = 2 := rfl
theorem rt_Model_readsNumber : (g_m Model_readsNumber).2.2.2.1 = (some .boolean) := rfl
theorem B_Model_readsNumber_0 {d mc ms cs ss : Nat} {L : List (Option Value)} {st : List Value} {h : g_H} {Q : g_Po} (hw : g_wp Model_readsNumber d mc ms Q 7 [(0, 1, 0, 0, 0, 0, .aload_n 0), (1, 1, 0, 0, 0, 0, .iconst 0), (2, 3, 7, 17, 3162, 0, .putfield 247), (5, 1, 0, 0, 0, 0, .iconst 0), (6, 1, 0, 0, 0, 0, .istore_n 1)] cs ss L st h) : G Model_readsNumber d mc ms cs ss 0 L st h Q := G.run (by decide +kernel) hw
theorem B_Model_readsNumber_7 {d mc ms cs ss : Nat} {L : List (Option Value)} {st : List Value} {h : g_H} {Q : g_Po} (hw : g_wp Model_readsNumber d mc ms Q 12 [(7, 1, 0, 0, 0, 0, .iload_n 1), (8, 1, 0, 0, 0, 3, .iconst 3), (9, 3, 69, 0, 0, 0, .if_icmp .ge 60)] cs ss L st h) : G Model_readsNumber d mc ms cs ss 7 L st h Q := G.run (by decide +kernel) hw
theorem B_Model_readsNumber_12 {d mc ms cs ss : Nat} {L : List (Option Value)} {st : List Value} {h : g_H} {Q : g_Po} (hw : g_wp Model_readsNumber d mc ms Q 20 [(12, 1, 0, 0, 0, 0, .aload_n 0), (13, 1, 0, 0, 0, 0, .aload_n 0), (14, 3, 7, 15, 3160, 0, .getfield 241), (17, 3, 189, 7, 5055, 1, .invokevirtual 244)] cs ss L st h) : G Model_readsNumber d mc ms cs ss 12 L st h Q := G.run (by decide +kernel) hw
theorem B_Model_readsNumber_20 {d mc ms cs ss : Nat} {L : List (Option Value)} {st : List Value} {h : g_H} {Q : g_Po} (hw : g_wp Model_readsNumber d mc ms Q 27 [(20, 2, 0, 0, 0, 48, .bipush 48), (22, 2, 0, 0, 0, 57, .bipush 57), (24, 3, 108, 0, 3219, 3, .invokestatic 45)] cs ss L st h) : G Model_readsNumber d mc ms cs ss 20 L st h Q := G.run (by decide +kernel) hw
theorem B_Model_readsNumber_27 {d mc ms cs ss : Nat} {L : List (Option Value)} {st : List Value} {h : g_H} {Q : g_Po} (hw : g_wp Model_readsNumber d mc ms Q 30 [(27, 3, 69, 0, 0, 0, .ifCond .eq 42)] cs ss L st h) : G Model_readsNumber d mc ms cs ss 27 L st h Q := G.run (by decide +kernel) hw
theorem B_Model_readsNumber_30 {d mc ms cs ss : Nat} {L : List (Option Value)} {st : List Value} {h : g_H} {Q : g_Po} (hw : g_wp Model_readsNumber d mc ms Q 46 [(30, 1, 0, 0, 0, 0, .aload_n 0), (31, 2, 0, 0, 0, 10, .bipush 10), (33, 1, 0, 0, 0, 0, .aload_n 0), (34, 3, 7, 17, 3162, 0, .getfield 247), (37, 1, 0, 0, 0, 0, .imul), (38, 1, 0, 0, 0, 0, .aload_n 0), (39, 1, 0, 0, 0, 0, .aload_n 0), (40, 3, 7, 15, 3160, 0, .getfield 241), (43, 3, 189, 7, 5055, 1, .invokevirtual 244)] cs ss L st h) : G Model_readsNumber d mc ms cs ss 30 L st h Q := G.run (by decide +kernel) hw
theorem B_Model_readsNumber_46 {d mc ms cs ss : Nat} {L : List (Option Value)} {st : List Value} {h : g_H} {Q : g_Po} (hw : g_wp Model_readsNumber d mc ms Q 69 [(46, 1, 0, 0, 0, 0, .iadd), (47, 2, 0, 0, 0, 48, .bipush 48), (49, 1, 0, 0, 0, 0, .isub), (50, 3, 7, 17, 3162, 0, .putfield 247), (53, 3, 0, 0, 0, 1, .iinc 1 1), (56, 1, 0, 0, 0, 0, .aload_n 0), (57, 1, 0, 0, 0, 0, .dup), (58, 3, 7, 15, 3160, 0, .getfield 241), (61, 1, 0, 0, 0, 1, .iconst 1), (62, 1, 0, 0, 0, 0, .iadd), (63, 3, 7, 15, 3160, 0, .putfield 241), (66, 3, 7, 0, 0, 0, .goto (-59))] cs ss L st h) : G Model_readsNumber d mc ms cs ss 46 L st h Q := G.run (by decide +kernel) hw
theorem B_Model_readsNumber_69 {d mc ms cs ss : Nat} {L : List (Option Value)} {st : List Value} {h : g_H} {Q : g_Po} (hw : g_wp Model_readsNumber d mc ms Q 73 [(69, 1, 0, 0, 0, 0, .iload_n 1), (70, 3, 77, 0, 0, 0, .ifCond .le 7)] cs ss L st h) : G Model_readsNumber d mc ms cs ss 69 L st h Q := G.run (by decide +kernel) hw
theorem B_Model_readsNumber_73 {d mc ms cs ss : Nat} {L : List (Option Value)} {st : List Value} {h : g_H} {Q : g_Po} (hw : g_wp Model_readsNumber d mc ms Q 77 [(73, 1, 0, 0, 0, 1, .iconst 1), (74, 3, 78, 0, 0, 0, .goto 4)] cs ss L st h) : G Model_readsNumber d mc ms cs ss 73 L st h Q := G.run (by decide +kernel) hw
theorem B_Model_readsNumber_77 {d mc ms cs ss : Nat} {L : List (Option Value)} {st : List Value} {h : g_H} {Q : g_Po} (hw : g_wp Model_readsNumber d mc ms Q 78 [(77, 1, 0, 0, 0, 0, .iconst 0)] cs ss L st h) : G Model_readsNumber d mc ms cs ss 77 L st h Q := G.run (by decide +kernel) hw
theorem B_Model_readsNumber_78 {d mc ms cs ss : Nat} {L : List (Option Value)} {st : List Value} {h : g_H} {Q : g_Po} (hw : g_wp Model_readsNumber d mc ms Q 79 [(78, 1, 0, 0, 0, 0, .ireturn)] cs ss L st h) : G Model_readsNumber d mc ms cs ss 78 L st h Q := G.run (by decide +kernel) hw
/-! blocks of Model_readsPoint -/
theorem ml_Model_readsPoint : (g_m Model_readsPoint).2.2.1 = 3 := rfl
theorem rt_Model_readsPoint : (g_m Model_readsPoint).2.2.2.1 = (some .boolean) := rfl
theorem B_Model_readsPoint_0 {d mc ms cs ss : Nat} {L : List (Option Value)} {st : List Value} {h : g_H} {Q : g_Po} (hw : g_wp Model_readsPoint d mc ms Q 4 [(0, 1, 0, 0, 0, 0, .aload_n 0), (1, 3, 191, 7, 5051, 0, .invokevirtual 250)] cs ss L st h) : G Model_readsPoint d mc ms cs ss 0 L st h Q := G.run (by decide +kernel) hw
theorem B_Model_readsPoint_4 {d mc ms cs ss : Nat} {L : List (Option Value)} {st : List Value} {h : g_H} {Q : g_Po} (hw : g_wp Model_readsPoint d mc ms Q 14 [(4, 1, 0, 0, 0, 0, .istore_n 1), (5, 1, 0, 0, 0, 0, .aload_n 0), (6, 3, 7, 17, 3162, 0, .getfield 247), (9, 1, 0, 0, 0, 0, .istore_n 2), (10, 1, 0, 0, 0, 0, .iload_n 1), (11, 3, 34, 0, 0, 0, .ifCond .eq 23)] cs ss L st h) : G Model_readsPoint d mc ms cs ss 4 L st h Q := G.run (by decide +kernel) hw
theorem B_Model_readsPoint_14 {d mc ms cs ss : Nat} {L : List (Option Value)} {st : List Value} {h : g_H} {Q : g_Po} (hw : g_wp Model_readsPoint d mc ms Q 20 [(14, 1, 0, 0, 0, 0, .aload_n 0), (15, 2, 0, 0, 0, 44, .bipush 44), (17, 3, 190, 7, 5059, 1, .invokevirtual 253)] cs ss L st h) : G Model_readsPoint d mc ms cs ss 14 L st h Q := G.run (by decide +kernel) hw
theorem B_Model_readsPoint_20 {d mc ms cs ss : Nat} {L : List (Option Value)} {st : List Value} {h : g_H} {Q : g_Po} (hw : g_wp Model_readsPoint d mc ms Q 23 [(20, 3, 34, 0, 0, 0, .ifCond .eq 14)] cs ss L st h) : G Model_readsPoint d mc ms cs ss 20 L st h Q := G.run (by decide +kernel) hw
theorem B_Model_readsPoint_23 {d mc ms cs ss : Nat} {L : List (Option Value)} {st : List Value} {h : g_H} {Q : g_Po} (hw : g_wp Model_readsPoint d mc ms Q 27 [(23, 1, 0, 0, 0, 0, .aload_n 0), (24, 3, 191, 7, 5051, 0, .invokevirtual 250)] cs ss L st h) : G Model_readsPoint d mc ms cs ss 23 L st h Q := G.run (by decide +kernel) hw
theorem B_Model_readsPoint_27 {d mc ms cs ss : Nat} {L : List (Option Value)} {st : List Value} {h : g_H} {Q : g_Po} (hw : g_wp Model_readsPoint d mc ms Q 30 [(27, 3, 34, 0, 0, 0, .ifCond .eq 7)] cs ss L st h) : G Model_readsPoint d mc ms cs ss 27 L st h Q := G.run (by decide +kernel) hw
theorem B_Model_readsPoint_30 {d mc ms cs ss : Nat} {L : List (Option Value)} {st : List Value} {h : g_H} {Q : g_Po} (hw : g_wp Model_readsPoint d mc ms Q 34 [(30, 1, 0, 0, 0, 1, .iconst 1), (31, 3, 35, 0, 0, 0, .goto 4)] cs ss L st h) : G Model_readsPoint d mc ms cs ss 30 L st h Q := G.run (by decide +kernel) hw
theorem B_Model_readsPoint_34 {d mc ms cs ss : Nat} {L : List (Option Value)} {st : List Value} {h : g_H} {Q : g_Po} (hw : g_wp Model_readsPoint d mc ms Q 35 [(34, 1, 0, 0, 0, 0, .iconst 0)] cs ss L st h) : G Model_readsPoint d mc ms cs ss 34 L st h Q := G.run (by decide +kernel) hw
theorem B_Model_readsPoint_35 {d mc ms cs ss : Nat} {L : List (Option Value)} {st : List Value} {h : g_H} {Q : g_Po} (hw : g_wp Model_readsPoint d mc ms Q 45 [(35, 1, 0, 0, 0, 0, .istore_n 1), (36, 1, 0, 0, 0, 0, .aload_n 0), (37, 1, 0, 0, 0, 0, .iload_n 2), (38, 1, 0, 0, 0, 0, .aload_n 0), (39, 3, 7, 17, 3162, 0, .getfield 247), (42, 3, 113, 0, 3229, 2, .invokestatic 84)] cs ss L st h) : G Model_readsPoint d mc ms cs ss 35 L st h Q := G.run (by decide +kernel) hw
theorem B_Model_readsPoint_45 {d mc ms cs ss : Nat} {L : List (Option Value)} {st : List Value} {h : g_H} {Q : g_Po} (hw : g_wp Model_readsPoint d mc ms Q 50 [(45, 3, 7, 16, 3161, 0, .putfield 256), (48, 1, 0, 0, 0, 0, .iload_n 1), (49, 1, 0, 0, 0, 0, .ireturn)] cs ss L st h) : G Model_readsPoint d mc ms cs ss 45 L st h Q := G.run (by decide +kernel) hw
/-! blocks of Model_marks -/
theorem ml_Model_marks : (g_m Model_marks).2.2.1 = 2 := rfl
theorem rt_Model_marks : (g_m Model_marks).2.2.2.1 = none := rfl
theorem B_Model_marks_0 {d mc ms cs ss : Nat} {L : List (Option Value)} {st : List Value} {h : g_H} {Q : g_Po} (hw : g_wp Model_marks d mc ms Q 9 [(0, 1, 0, 0, 0, 0, .aload_n 0), (1, 3, 7, 19, 3164, 0, .getfield 259), (4, 2, 0, 0, 0, (-6), .bipush (-6)), (6, 3, 22, 0, 0, 0, .if_icmp .ne 16)] cs ss L st h) : G Model_marks d mc ms cs ss 0 L st h Q := G.run (by decide +kernel) hw
theorem B_Model_marks_9 {d mc ms cs ss : Nat} {L : List (Option Value)} {st : List Value} {h : g_H} {Q : g_Po} (hw : g_wp Model_marks d mc ms Q 22 [(9, 1, 0, 0, 0, 0, .aload_n 0), (10, 1, 0, 0, 0, 0, .aload_n 0), (11, 3, 7, 18, 3163, 0, .getfield 262), (14, 3, 7, 19, 3164, 0, .putfield 259), (17, 1, 0, 0, 0, 0, .aload_n 0), (18, 1, 0, 0, 0, 0, .iload_n 1), (19, 3, 7, 20, 3165, 0, .putfield 265)] cs ss L st h) : G Model_marks d mc ms cs ss 9 L st h Q := G.run (by decide +kernel) hw
theorem B_Model_marks_22 {d mc ms cs ss : Nat} {L : List (Option Value)} {st : List Value} {h : g_H} {Q : g_Po} (hw : g_wp Model_marks d mc ms Q 23 [(22, 1, 0, 0, 0, 0, .return_)] cs ss L st h) : G Model_marks d mc ms cs ss 22 L st h Q := G.run (by decide +kernel) hw
/-! blocks of Model_readsStroke -/
theorem ml_Model_readsStroke : (g_m Model_readsStroke).2.2.1 = 2 := rfl
theorem rt_Model_readsStroke : (g_m Model_readsStroke).2.2.2.1 = (some .boolean) := rfl
theorem B_Model_readsStroke_0 {d mc ms cs ss : Nat} {L : List (Option Value)} {st : List Value} {h : g_H} {Q : g_Po} (hw : g_wp Model_readsStroke d mc ms Q 7 [(0, 1, 0, 0, 0, 0, .aload_n 0), (1, 1, 0, 0, 0, 0, .iconst 0), (2, 3, 7, 12, 3157, 0, .putfield 70), (5, 1, 0, 0, 0, 1, .iconst 1), (6, 1, 0, 0, 0, 0, .istore_n 1)] cs ss L st h) : G Model_readsStroke d mc ms cs ss 0 L st h Q := G.run (by decide +kernel) hw
theorem B_Model_readsStroke_7 {d mc ms cs ss : Nat} {L : List (Option Value)} {st : List Value} {h : g_H} {Q : g_Po} (hw : g_wp Model_readsStroke d mc ms Q 11 [(7, 1, 0, 0, 0, 0, .iload_n 1), (8, 3, 97, 0, 0, 0, .ifCond .eq 89)] cs ss L st h) : G Model_readsStroke d mc ms cs ss 7 L st h Q := G.run (by decide +kernel) hw
theorem B_Model_readsStroke_11 {d mc ms cs ss : Nat} {L : List (Option Value)} {st : List Value} {h : g_H} {Q : g_Po} (hw : g_wp Model_readsStroke d mc ms Q 15 [(11, 1, 0, 0, 0, 0, .aload_n 0), (12, 3, 192, 7, 5047, 0, .invokevirtual 268)] cs ss L st h) : G Model_readsStroke d mc ms cs ss 11 L st h Q := G.run (by decide +kernel) hw
theorem B_Model_readsStroke_15 {d mc ms cs ss : Nat} {L : List (Option Value)} {st : List Value} {h : g_H} {Q : g_Po} (hw : g_wp Model_readsStroke d mc ms Q 18 [(15, 3, 20, 0, 0, 0, .ifCond .ne 5)] cs ss L st h) : G Model_readsStroke d mc ms cs ss 15 L st h Q := G.run (by decide +kernel) hw
theorem B_Model_readsStroke_18 {d mc ms cs ss : Nat} {L : List (Option Value)} {st : List Value} {h : g_H} {Q : g_Po} (hw : g_wp Model_readsStroke d mc ms Q 20 [(18, 1, 0, 0, 0, 0, .iconst 0), (19, 1, 0, 0, 0, 0, .ireturn)] cs ss L st h) : G Model_readsStroke d mc ms cs ss 18 L st h Q := G.run (by decide +kernel) hw
theorem B_Model_readsStroke_20 {d mc ms cs ss : Nat} {L : List (Option Value)} {st : List Value} {h : g_H} {Q : g_Po} (hw : g_wp Model_readsStroke d mc ms Q 40 [(20, 1, 0, 0, 0, 0, .aload_n 0), (21, 3, 7, 11, 3156, 2, .getfield 34), (24, 1, 0, 0, 0, 0, .aload_n 0), (25, 3, 7, 12, 3157, 0, .getfield 70), (28, 1, 0, 0, 0, 0, .aload_n 0), (29, 3, 7, 16, 3161, 0, .getfield 256), (32, 1, 0, 0, 0, 0, .iastore), (33, 1, 0, 0, 0, 0, .aload_n 0), (34, 3, 7, 12, 3157, 0, .getfield 70), (37, 3, 66, 0, 0, 0, .ifCond .le 29)] cs ss L st h) : G Model_readsStroke d mc ms cs ss 20 L st h Q := G.run (by decide +kernel) hw
theorem B_Model_readsStroke_40 {d mc ms cs ss : Nat} {L : List (Option Value)} {st : List Value} {h : g_H} {Q : g_Po} (hw : g_wp Model_readsStroke d mc ms Q 58 [(40, 1, 0, 0, 0, 0, .aload_n 0), (41, 3, 7, 11, 3156, 2, .getfield 34), (44, 1, 0, 0, 0, 0, .aload_n 0), (45, 3, 7, 12, 3157, 0, .getfield 70), (48, 1, 0, 0, 0, 1, .iconst 1), (49, 1, 0, 0, 0, 0, .isub), (50, 1, 0, 0, 0, 0, .iaload), (51, 1, 0, 0, 0, 0, .aload_n 0), (52, 3, 7, 16, 3161, 0, .getfield 256), (55, 3, 66, 0, 0, 0, .if_icmp .ne 11)] cs ss L st h) : G Model_readsStroke d mc ms cs ss 40 L st h Q := G.run (by decide +kernel) hw
theorem B_Model_readsStroke_58 {d mc ms cs ss : Nat} {L : List (Option Value)} {st : List Value} {h : g_H} {Q : g_Po} (hw : g_wp Model_readsStroke d mc ms Q 66 [(58, 1, 0, 0, 0, 0, .aload_n 0), (59, 1, 0, 0, 0, 0, .aload_n 0), (60, 3, 7, 12, 3157, 0, .getfield 70), (63, 3, 193, 7, 5063, 1, .invokevirtual 271)] cs ss L st h) : G Model_readsStroke d mc ms cs ss 58 L st h Q := G.run (by decide +kernel) hw
theorem B_Model_readsStroke_66 {d mc ms cs ss : Nat} {L : List (Option Value)} {st : List Value} {h : g_H} {Q : g_Po} (hw : g_wp Model_readsStroke d mc ms Q 82 [(66, 1, 0, 0, 0, 0, .aload_n 0), (67, 1, 0, 0, 0, 0, .dup), (68, 3, 7, 12, 3157, 0, .getfield 70), (71, 1, 0, 0, 0, 1, .iconst 1), (72, 1, 0, 0, 0, 0, .iadd), (73, 3, 7, 12, 3157, 0, .putfield 70), (76, 1, 0, 0, 0, 0, .aload_n 0), (77, 2, 0, 0, 0, 45, .bipush 45), (79, 3, 190, 7, 5059, 1, .invokevirtual 253)] cs ss L st h) : G Model_readsStroke d mc ms cs ss 66 L st h Q := G.run (by decide +kernel) hw
theorem B_Model_readsStroke_82 {d mc ms cs ss : Nat} {L : List (Option Value)} {st : List Value} {h : g_H} {Q : g_Po} (hw : g_wp Model_readsStroke d mc ms Q 87 [(82, 1, 0, 0, 0, 0, .istore_n 1), (83, 1, 0, 0, 0, 0, .iload_n 1), (84, 3, 7, 0, 0, 0, .ifCond .ne (-77))] cs ss L st h) : G Model_readsStroke d mc ms cs ss 82 L st h Q := G.run (by decide +kernel) hw
theorem B_Model_readsStroke_87 {d mc ms cs ss : Nat} {L : List (Option Value)} {st : List Value} {h : g_H} {Q : g_Po} (hw : g_wp Model_readsStroke d mc ms Q 95 [(87, 1, 0, 0, 0, 0, .aload_n 0), (88, 3, 7, 12, 3157, 0, .getfield 70), (91, 1, 0, 0, 0, 2, .iconst 2), (92, 3, 7, 0, 0, 0, .if_icmp .ge (-85))] cs ss L st h) : G Model_readsStroke d mc ms cs ss 87 L st h Q := G.run (by decide +kernel) hw
theorem B_Model_readsStroke_95 {d mc ms cs ss : Nat} {L : List (Option Value)} {st : List Value} {h : g_H} {Q : g_Po} (hw : g_wp Model_readsStroke d mc ms Q 97 [(95, 1, 0, 0, 0, 0, .iconst 0), (96, 1, 0, 0, 0, 0, .ireturn)] cs ss L st h) : G Model_readsStroke d mc ms cs ss 95 L st h Q := G.run (by decide +kernel) hw
theorem B_Model_readsStroke_97 {d mc ms cs ss : Nat} {L : List (Option Value)} {st : List Value} {h : g_H} {Q : g_Po} (hw : g_wp Model_readsStroke d mc ms Q 99 [(97, 1, 0, 0, 0, 1, .iconst 1), (98, 1, 0, 0, 0, 0, .ireturn)] cs ss L st h) : G Model_readsStroke d mc ms cs ss 97 L st h Q := G.run (by decide +kernel) hw
/-! blocks of Model_readsClosing -/
theorem ml_Model_readsClosing : (g_m Model_readsClosing).2.2.1 = 2 := rfl
theorem rt_Model_readsClosing : (g_m Model_readsClosing).2.2.2.1 = (some .boolean) := rfl
theorem B_Model_readsClosing_0 {d mc ms cs ss : Nat} {L : List (Option Value)} {st : List Value} {h : g_H} {Q : g_Po} (hw : g_wp Model_readsClosing d mc ms Q 8 [(0, 1, 0, 0, 0, 0, .aload_n 0), (1, 3, 7, 12, 3157, 0, .getfield 70), (4, 1, 0, 0, 0, 3, .iconst 3), (5, 3, 21, 0, 0, 0, .if_icmp .lt 16)] cs ss L st h) : G Model_readsClosing d mc ms cs ss 0 L st h Q := G.run (by decide +kernel) hw
theorem B_Model_readsClosing_8 {d mc ms cs ss : Nat} {L : List (Option Value)} {st : List Value} {h : g_H} {Q : g_Po} (hw : g_wp Model_readsClosing d mc ms Q 14 [(8, 1, 0, 0, 0, 0, .aload_n 0), (9, 2, 0, 0, 0, 122, .bipush 122), (11, 3, 190, 7, 5059, 1, .invokevirtual 253)] cs ss L st h) : G Model_readsClosing d mc ms cs ss 8 L st h Q := G.run (by decide +kernel) hw
theorem B_Model_readsClosing_14 {d mc ms cs ss : Nat} {L : List (Option Value)} {st : List Value} {h : g_H} {Q : g_Po} (hw : g_wp Model_readsClosing d mc ms Q 17 [(14, 3, 21, 0, 0, 0, .ifCond .eq 7)] cs ss L st h) : G Model_readsClosing d mc ms cs ss 14 L st h Q := G.run (by decide +kernel) hw
theorem B_Model_readsClosing_17 {d mc ms cs ss : Nat} {L : List (Option Value)} {st : List Value} {h : g_H} {Q : g_Po} (hw : g_wp Model_readsClosing d mc ms Q 21 [(17, 1, 0, 0, 0, 1, .iconst 1), (18, 3, 22, 0, 0, 0, .goto 4)] cs ss L st h) : G Model_readsClosing d mc ms cs ss 17 L st h Q := G.run (by decide +kernel) hw
theorem B_Model_readsClosing_21 {d mc ms cs ss : Nat} {L : List (Option Value)} {st : List Value} {h : g_H} {Q : g_Po} (hw : g_wp Model_readsClosing d mc ms Q 22 [(21, 1, 0, 0, 0, 0, .iconst 0)] cs ss L st h) : G Model_readsClosing d mc ms cs ss 21 L st h Q := G.run (by decide +kernel) hw
theorem B_Model_readsClosing_22 {d mc ms cs ss : Nat} {L : List (Option Value)} {st : List Value} {h : g_H} {Q : g_Po} (hw : g_wp Model_readsClosing d mc ms Q 27 [(22, 1, 0, 0, 0, 0, .istore_n 1), (23, 1, 0, 0, 0, 0, .iload_n 1), (24, 3, 52, 0, 0, 0, .ifCond .eq 28)] cs ss L st h) : G Model_readsClosing d mc ms cs ss 22 L st h Q := G.run (by decide +kernel) hw
theorem B_Model_readsClosing_27 {d mc ms cs ss : Nat} {L : List (Option Value)} {st : List Value} {h : g_H} {Q : g_Po} (hw : g_wp Model_readsClosing d mc ms Q 47 [(27, 1, 0, 0, 0, 0, .aload_n 0), (28, 3, 7, 11, 3156, 2, .getfield 34), (31, 1, 0, 0, 0, 0, .iconst 0), (32, 1, 0, 0, 0, 0, .iaload), (33, 1, 0, 0, 0, 0, .aload_n 0), (34, 3, 7, 11, 3156, 2, .getfield 34), (37, 1, 0, 0, 0, 0, .aload_n 0), (38, 3, 7, 12, 3157, 0, .getfield 70), (41, 1, 0, 0, 0, 1, .iconst 1), (42, 1, 0, 0, 0, 0, .isub), (43, 1, 0, 0, 0, 0, .iaload), (44, 3, 52, 0, 0, 0, .if_icmp .ne 8)] cs ss L st h) : G Model_readsClosing d mc ms cs ss 27 L st h Q := G.run (by decide +kernel) hw
theorem B_Model_readsClosing_47 {d mc ms cs ss : Nat} {L : List (Option Value)} {st : List Value} {h : g_H} {Q : g_Po} (hw : g_wp Model_readsClosing d mc ms Q 52 [(47, 1, 0, 0, 0, 0, .aload_n 0), (48, 1, 0, 0, 0, 0, .iconst 0), (49, 3, 193, 7, 5063, 1, .invokevirtual 271)] cs ss L st h) : G Model_readsClosing d mc ms cs ss 47 L st h Q := G.run (by decide +kernel) hw
theorem B_Model_readsClosing_52 {d mc ms cs ss : Nat} {L : List (Option Value)} {st : List Value} {h : g_H} {Q : g_Po} (hw : g_wp Model_readsClosing d mc ms Q 54 [(52, 1, 0, 0, 0, 0, .iload_n 1), (53, 1, 0, 0, 0, 0, .ireturn)] cs ss L st h) : G Model_readsClosing d mc ms cs ss 52 L st h Q := G.run (by decide +kernel) hw
/-! blocks of Model_findError -/
theorem ml_Model_findError : (g_m Model_findError).2.2.1 = 1 := rfl
theorem rt_Model_findError : (g_m Model_findError).2.2.2.1 = (some .int) := rfl
theorem B_Model_findError_0 {d mc ms cs ss : Nat} {L : List (Option Value)} {st : List Value} {h : g_H} {Q : g_Po} (hw : g_wp Model_findError d mc ms Q 22 [(0, 1, 0, 0, 0, 0, .aload_n 0), (1, 1, 0, 0, 0, 0, .iconst 0), (2, 3, 7, 15, 3160, 0, .putfield 241), (5, 1, 0, 0, 0, 0, .aload_n 0), (6, 1, 0, 0, 0, 0, .iconst 0), (7, 3, 7, 18, 3163, 0, .putfield 262), (10, 1, 0, 0, 0, 0, .aload_n 0), (11, 2, 0, 0, 0, (-6), .bipush (-6)), (13, 3, 7, 19, 3164, 0, .putfield 259), (16, 1, 0, 0, 0, 0, .aload_n 0), (17, 2, 0, 0, 0, (-6), .bipush (-6)), (19, 3, 7, 20, 3165, 0, .putfield 265)] cs ss L st h) : G Model_findError d mc ms cs ss 0 L st h Q := G.run (by decide +kernel) hw
theorem B_Model_findError_22 {d mc ms cs ss : Nat} {L : List (Option Value)} {st : List Value} {h : g_H} {Q : g_Po} (hw : g_wp Model_findError d mc ms Q 26 [(22, 1, 0, 0, 0, 0, .aload_n 0), (23, 3, 194, 7, 5043, 0, .invokevirtual 274)] cs ss L st h) : G Model_findError d mc ms cs ss 22 L st h Q := G.run (by decide +kernel) hw
theorem B_Model_findError_26 {d mc ms cs ss : Nat} {L : List (Option Value)} {st : List Value} {h : g_H} {Q : g_Po} (hw : g_wp Model_findError d mc ms Q 29 [(26, 3, 34, 0, 0, 0, .ifCond .ne 8)] cs ss L st h) : G Model_findError d mc ms cs ss 26 L st h Q := G.run (by decide +kernel) hw
theorem B_Model_findError_29 {d mc ms cs ss : Nat} {L : List (Option Value)} {st : List Value} {h : g_H} {Q : g_Po} (hw : g_wp Model_findError d mc ms Q 34 [(29, 1, 0, 0, 0, 0, .aload_n 0), (30, 3, 7, 15, 3160, 0, .getfield 241), (33, 1, 0, 0, 0, 0, .ireturn)] cs ss L st h) : G Model_findError d mc ms cs ss 29 L st h Q := G.run (by decide +kernel) hw
theorem B_Model_findError_34 {d mc ms cs ss : Nat} {L : List (Option Value)} {st : List Value} {h : g_H} {Q : g_Po} (hw : g_wp Model_findError d mc ms Q 38 [(34, 1, 0, 0, 0, 0, .aload_n 0), (35, 3, 195, 7, 5067, 0, .invokevirtual 277)] cs ss L st h) : G Model_findError d mc ms cs ss 34 L st h Q := G.run (by decide +kernel) hw
theorem B_Model_findError_38 {d mc ms cs ss : Nat} {L : List (Option Value)} {st : List Value} {h : g_H} {Q : g_Po} (hw : g_wp Model_findError d mc ms Q 60 [(38, 1, 0, 0, 0, 0, .pop), (39, 1, 0, 0, 0, 0, .aload_n 0), (40, 1, 0, 0, 0, 0, .dup), (41, 3, 7, 18, 3163, 0, .getfield 262), (44, 1, 0, 0, 0, 1, .iconst 1), (45, 1, 0, 0, 0, 0, .iadd), (46, 3, 7, 18, 3163, 0, .putfield 262), (49, 1, 0, 0, 0, 0, .aload_n 0), (50, 3, 7, 15, 3160, 0, .getfield 241), (53, 1, 0, 0, 0, 0, .aload_n 0), (54, 3, 7, 5, 3150, 0, .getfield 238), (57, 3, 63, 0, 0, 0, .if_icmp .ne 6)] cs ss L st h) : G Model_findError d mc ms cs ss 38 L st h Q := G.run (by decide +kernel) hw
theorem B_Model_findError_60 {d mc ms cs ss : Nat} {L : List (Option Value)} {st : List Value} {h : g_H} {Q : g_Po} (hw : g_wp Model_findError d mc ms Q 63 [(60, 2, 0, 0, 0, (-6), .bipush (-6)), (62, 1, 0, 0, 0, 0, .ireturn)] cs ss L st h) : G Model_findError d mc ms cs ss 60 L st h Q := G.run (by decide +kernel) hw
theorem B_Model_findError_63 {d mc ms cs ss : Nat} {L : List (Option Value)} {st : List Value} {h : g_H} {Q : g_Po} (hw : g_wp Model_findError d mc ms Q 69 [(63, 1, 0, 0, 0, 0, .aload_n 0), (64, 2, 0, 0, 0, 59, .bipush 59), (66, 3, 190, 7, 5059, 1, .invokevirtual 253)] cs ss L st h) : G Model_findError d mc ms cs ss 63 L st h Q := G.run (by decide +kernel) hw
theorem B_Model_findError_69 {d mc ms cs ss : Nat} {L : List (Option Value)} {st : List Value} {h : g_H} {Q : g_Po} (hw : g_wp Model_findError d mc ms Q 72 [(69, 3, 22, 0, 0, 0, .ifCond .ne (-47))] cs ss L st h) : G Model_findError d mc ms cs ss 69 L st h Q := G.run (by decide +kernel) hw
theorem B_Model_findError_72 {d mc ms cs ss : Nat} {L : List (Option Value)} {st : List Value} {h : g_H} {Q : g_Po} (hw : g_wp Model_findError d mc ms Q 77 [(72, 1, 0, 0, 0, 0, .aload_n 0), (73, 3, 7, 15, 3160, 0, .getfield 241), (76, 1, 0, 0, 0, 0, .ireturn)] cs ss L st h) : G Model_findError d mc ms cs ss 72 L st h Q := G.run (by decide +kernel) hw
/-! blocks of Model_syntaxError -/
theorem ml_Model_syntaxError : (g_m Model_syntaxError).2.2.1 = 1 := rfl
theorem rt_Model_syntaxError : (g_m Model_syntaxError).2.2.2.1 = (some .int) := rfl
theorem B_Model_syntaxError_0 {d mc ms cs ss : Nat} {L : List (Option Value)} {st : List Value} {h : g_H} {Q : g_Po} (hw : g_wp Model_syntaxError d mc ms Q 4 [(0, 1, 0, 0, 0, 0, .aload_n 0), (1, 3, 196, 7, 5039, 0, .invokevirtual 280)] cs ss L st h) : G Model_syntaxError d mc ms cs ss 0 L st h Q := G.run (by decide +kernel) hw
theorem B_Model_syntaxError_4 {d mc ms cs ss : Nat} {L : List (Option Value)} {st : List Value} {h : g_H} {Q : g_Po} (hw : g_wp Model_syntaxError d mc ms Q 5 [(4, 1, 0, 0, 0, 0, .ireturn)] cs ss L st h) : G Model_syntaxError d mc ms cs ss 4 L st h Q := G.run (by decide +kernel) hw
/-! blocks of Model_fails -/
theorem ml_Model_fails : (g_m Model_fails).2.2.1 = 4 := rfl
theorem rt_Model_fails : (g_m Model_fails).2.2.2.1 = (some .int) := rfl
theorem B_Model_fails_0 {d mc ms cs ss : Nat} {L : List (Option Value)} {st : List Value} {h : g_H} {Q : g_Po} (hw : g_wp Model_fails d mc ms Q 23 [(0, 1, 0, 0, 0, 0, .aload_n 0), (1, 3, 7, 6, 3151, 2, .getfield 22), (4, 1, 0, 0, 0, 0, .iconst 0), (5, 1, 0, 0, 0, 0, .iload_n 1), (6, 1, 0, 0, 0, 0, .iastore), (7, 1, 0, 0, 0, 0, .aload_n 0), (8, 3, 7, 6, 3151, 2, .getfield 22), (11, 1, 0, 0, 0, 1, .iconst 1), (12, 1, 0, 0, 0, 0, .iload_n 2), (13, 1, 0, 0, 0, 0, .iastore), (14, 1, 0, 0, 0, 0, .aload_n 0), (15, 3, 7, 6, 3151, 2, .getfield 22), (18, 1, 0, 0, 0, 2, .iconst 2), (19, 1, 0, 0, 0, 0, .iload_n 3), (20, 1, 0, 0, 0, 0, .iastore), (21, 1, 0, 0, 0, 0, .iload_n 1), (22, 1, 0, 0, 0, 0, .ireturn)] cs ss L st h) : G Model_fails d mc ms cs ss 0 L st h Q := G.run (by decide +kernel) hw
/-! blocks of Model_read -/
theorem ml_Model_read : (g_m Model_read).2.2.1 = 2 := rfl
theorem rt_Model_read : (g_m Model_read).2.2.2.1 = (some .int) := rfl
theorem B_Model_read_0 {d mc ms cs ss : Nat} {L : List (Option Value)} {st : List Value} {h : g_H} {Q : g_Po} (hw : g_wp Model_read d mc ms Q 4 [(0, 1, 0, 0, 0, 0, .aload_n 0), (1, 3, 196, 7, 5039, 0, .invokevirtual 280)] cs ss L st h) : G Model_read d mc ms cs ss 0 L st h Q := G.run (by decide +kernel) hw
theorem B_Model_read_4 {d mc ms cs ss : Nat} {L : List (Option Value)} {st : List Value} {h : g_H} {Q : g_Po} (hw : g_wp Model_read d mc ms Q 9 [(4, 2, 0, 0, 0, (-6), .bipush (-6)), (6, 3, 20, 0, 0, 0, .if_icmp .eq 14)] cs ss L st h) : G Model_read d mc ms cs ss 4 L st h Q := G.run (by decide +kernel) hw
theorem B_Model_read_9 {d mc ms cs ss : Nat} {L : List (Option Value)} {st : List Value} {h : g_H} {Q : g_Po} (hw : g_wp Model_read d mc ms Q 19 [(9, 1, 0, 0, 0, 0, .aload_n 0), (10, 2, 0, 0, 0, (-5), .bipush (-5)), (12, 2, 0, 0, 0, (-6), .bipush (-6)), (14, 2, 0, 0, 0, (-6), .bipush (-6)), (16, 3, 198, 7, 5075, 3, .invokevirtual 284)] cs ss L st h) : G Model_read d mc ms cs ss 9 L st h Q := G.run (by decide +kernel) hw
theorem B_Model_read_19 {d mc ms cs ss : Nat} {L : List (Option Value)} {st : List Value} {h : g_H} {Q : g_Po} (hw : g_wp Model_read d mc ms Q 20 [(19, 1, 0, 0, 0, 0, .ireturn)] cs ss L st h) : G Model_read d mc ms cs ss 19 L st h Q := G.run (by decide +kernel) hw
theorem B_Model_read_20 {d mc ms cs ss : Nat} {L : List (Option Value)} {st : List Value} {h : g_H} {Q : g_Po} (hw : g_wp Model_read d mc ms Q 29 [(20, 1, 0, 0, 0, 0, .aload_n 0), (21, 3, 7, 0, 3145, 2, .getfield 7), (24, 1, 0, 0, 0, 1, .iconst 1), (25, 1, 0, 0, 0, 0, .iaload), (26, 3, 40, 0, 0, 0, .ifCond .le 14)] cs ss L st h) : G Model_read d mc ms cs ss 20 L st h Q := G.run (by decide +kernel) hw
theorem B_Model_read_29 {d mc ms cs ss : Nat} {L : List (Option Value)} {st : List Value} {h : g_H} {Q : g_Po} (hw : g_wp Model_read d mc ms Q 39 [(29, 1, 0, 0, 0, 0, .aload_n 0), (30, 2, 0, 0, 0, (-3), .bipush (-3)), (32, 2, 0, 0, 0, (-6), .bipush (-6)), (34, 2, 0, 0, 0, (-6), .bipush (-6)), (36, 3, 198, 7, 5075, 3, .invokevirtual 284)] cs ss L st h) : G Model_read d mc ms cs ss 29 L st h Q := G.run (by decide +kernel) hw
theorem B_Model_read_39 {d mc ms cs ss : Nat} {L : List (Option Value)} {st : List Value} {h : g_H} {Q : g_Po} (hw : g_wp Model_read d mc ms Q 40 [(39, 1, 0, 0, 0, 0, .ireturn)] cs ss L st h) : G Model_read d mc ms cs ss 39 L st h Q := G.run (by decide +kernel) hw
theorem B_Model_read_40 {d mc ms cs ss : Nat} {L : List (Option Value)} {st : List Value} {h : g_H} {Q : g_Po} (hw : g_wp Model_read d mc ms Q 49 [(40, 1, 0, 0, 0, 0, .aload_n 0), (41, 3, 7, 19, 3164, 0, .getfield 259), (44, 2, 0, 0, 0, (-6), .bipush (-6)), (46, 3, 64, 0, 0, 0, .if_icmp .eq 18)] cs ss L st h) : G Model_read d mc ms cs ss 40 L st h Q := G.run (by decide +kernel) hw
theorem B_Model_read_49 {d mc ms cs ss : Nat} {L : List (Option Value)} {st : List Value} {h : g_H} {Q : g_Po} (hw : g_wp Model_read d mc ms Q 63 [(49, 1, 0, 0, 0, 0, .aload_n 0), (50, 2, 0, 0, 0, (-3), .bipush (-3)), (52, 1, 0, 0, 0, 0, .aload_n 0), (53, 3, 7, 19, 3164, 0, .getfield 259), (56, 1, 0, 0, 0, 0, .aload_n 0), (57, 3, 7, 20, 3165, 0, .getfield 265), (60, 3, 198, 7, 5075, 3, .invokevirtual 284)] cs ss L st h) : G Model_read d mc ms cs ss 49 L st h Q := G.run (by decide +kernel) hw
theorem B_Model_read_63 {d mc ms cs ss : Nat} {L : List (Option Value)} {st : List Value} {h : g_H} {Q : g_Po} (hw : g_wp Model_read d mc ms Q 64 [(63, 1, 0, 0, 0, 0, .ireturn)] cs ss L st h) : G Model_read d mc ms cs ss 63 L st h Q := G.run (by decide +kernel) hw
theorem B_Model_read_64 {d mc ms cs ss : Nat} {L : List (Option Value)} {st : List Value} {h : g_H} {Q : g_Po} (hw : g_wp Model_read d mc ms Q 82 [(64, 1, 0, 0, 0, 0, .aload_n 0), (65, 3, 7, 18, 3163, 0, .getfield 262), (68, 1, 0, 0, 0, 0, .istore_n 1), (69, 1, 0, 0, 0, 0, .aload_n 0), (70, 3, 7, 0, 3145, 2, .getfield 7), (73, 1, 0, 0, 0, 0, .iconst 0), (74, 1, 0, 0, 0, 0, .iaload), (75, 1, 0, 0, 0, 0, .iload_n 1), (76, 1, 0, 0, 0, 0, .iadd), (77, 2, 0, 0, 0, 10, .bipush 10), (79, 3, 93, 0, 0, 0, .if_icmp .le 14)] cs ss L st h) : G Model_read d mc ms cs ss 64 L st h Q := G.run (by decide +kernel) hw
theorem B_Model_read_82 {d mc ms cs ss : Nat} {L : List (Option Value)} {st : List Value} {h : g_H} {Q : g_Po} (hw : g_wp Model_read d mc ms Q 92 [(82, 1, 0, 0, 0, 0, .aload_n 0), (83, 2, 0, 0, 0, (-4), .bipush (-4)), (85, 2, 0, 0, 0, (-6), .bipush (-6)), (87, 2, 0, 0, 0, (-6), .bipush (-6)), (89, 3, 198, 7, 5075, 3, .invokevirtual 284)] cs ss L st h) : G Model_read d mc ms cs ss 82 L st h Q := G.run (by decide +kernel) hw
theorem B_Model_read_92 {d mc ms cs ss : Nat} {L : List (Option Value)} {st : List Value} {h : g_H} {Q : g_Po} (hw : g_wp Model_read d mc ms Q 93 [(92, 1, 0, 0, 0, 0, .ireturn)] cs ss L st h) : G Model_read d mc ms cs ss 92 L st h Q := G.run (by decide +kernel) hw
theorem B_Model_read_93 {d mc ms cs ss : Nat} {L : List (Option Value)} {st : List Value} {h : g_H} {Q : g_Po} (hw : g_wp Model_read d mc ms Q 97 [(93, 1, 0, 0, 0, 0, .aload_n 0), (94, 3, 110, 7, 3222, 0, .invokevirtual 81)] cs ss L st h) : G Model_read d mc ms cs ss 93 L st h Q := G.run (by decide +kernel) hw
theorem B_Model_read_97 {d mc ms cs ss : Nat} {L : List (Option Value)} {st : List Value} {h : g_H} {Q : g_Po} (hw : g_wp Model_read d mc ms Q 102 [(97, 1, 0, 0, 0, 0, .aload_n 0), (98, 1, 0, 0, 0, 0, .iconst 0), (99, 3, 7, 15, 3160, 0, .putfield 241)] cs ss L st h) : G Model_read d mc ms cs ss 97 L st h Q := G.run (by decide +kernel) hw
theorem B_Model_read_102 {d mc ms cs ss : Nat} {L : List (Option Value)} {st : List Value} {h : g_H} {Q : g_Po} (hw : g_wp Model_read d mc ms Q 113 [(102, 1, 0, 0, 0, 0, .aload_n 0), (103, 3, 7, 15, 3160, 0, .getfield 241), (106, 1, 0, 0, 0, 0, .aload_n 0), (107, 3, 7, 5, 3150, 0, .getfield 238), (110, 3, 137, 0, 0, 0, .if_icmp .ge 27)] cs ss L st h) : G Model_read d mc ms cs ss 102 L st h Q := G.run (by decide +kernel) hw
theorem B_Model_read_113 {d mc ms cs ss : Nat} {L : List (Option Value)} {st : List Value} {h : g_H} {Q : g_Po} (hw : g_wp Model_read d mc ms Q 117 [(113, 1, 0, 0, 0, 0, .aload_n 0), (114, 3, 194, 7, 5043, 0, .invokevirtual 274)] cs ss L st h) : G Model_read d mc ms cs ss 113 L st h Q := G.run (by decide +kernel) hw
theorem B_Model_read_117 {d mc ms cs ss : Nat} {L : List (Option Value)} {st : List Value} {h : g_H} {Q : g_Po} (hw : g_wp Model_read d mc ms Q 123 [(117, 1, 0, 0, 0, 0, .pop), (118, 1, 0, 0, 0, 0, .aload_n 0), (119, 1, 0, 0, 0, 0, .aload_n 0), (120, 3, 195, 7, 5067, 0, .invokevirtual 277)] cs ss L st h) : G Model_read d mc ms cs ss 117 L st h Q := G.run (by decide +kernel) hw
theorem B_Model_read_123 {d mc ms cs ss : Nat} {L : List (Option Value)} {st : List Value} {h : g_H} {Q : g_Po} (hw : g_wp Model_read d mc ms Q 126 [(123, 3, 132, 7, 4000, 1, .invokevirtual 91)] cs ss L st h) : G Model_read d mc ms cs ss 123 L st h Q := G.run (by decide +kernel) hw
theorem B_Model_read_126 {d mc ms cs ss : Nat} {L : List (Option Value)} {st : List Value} {h : g_H} {Q : g_Po} (hw : g_wp Model_read d mc ms Q 133 [(126, 1, 0, 0, 0, 0, .pop), (127, 1, 0, 0, 0, 0, .aload_n 0), (128, 2, 0, 0, 0, 59, .bipush 59), (130, 3, 190, 7, 5059, 1, .invokevirtual 253)] cs ss L st h) : G Model_read d mc ms cs ss 126 L st h Q := G.run (by decide +kernel) hw
theorem B_Model_read_133 {d mc ms cs ss : Nat} {L : List (Option Value)} {st : List Value} {h : g_H} {Q : g_Po} (hw : g_wp Model_read d mc ms Q 137 [(133, 1, 0, 0, 0, 0, .pop), (134, 3, 102, 0, 0, 0, .goto (-32))] cs ss L st h) : G Model_read d mc ms cs ss 133 L st h Q := G.run (by decide +kernel) hw
theorem B_Model_read_137 {d mc ms cs ss : Nat} {L : List (Option Value)} {st : List Value} {h : g_H} {Q : g_Po} (hw : g_wp Model_read d mc ms Q 144 [(137, 1, 0, 0, 0, 0, .aload_n 0), (138, 1, 0, 0, 0, 0, .iconst 0), (139, 3, 7, 5, 3150, 0, .putfield 238), (142, 1, 0, 0, 0, 0, .iload_n 1), (143, 1, 0, 0, 0, 0, .ireturn)] cs ss L st h) : G Model_read d mc ms cs ss 137 L st h Q := G.run (by decide +kernel) hw
/-! blocks of Model_problem -/
theorem ml_Model_problem : (g_m Model_problem).2.2.1 = 2 := rfl
theorem rt_Model_problem : (g_m Model_problem).2.2.2.1 = (some .int) := rfl
theorem B_Model_problem_0 {d mc ms cs ss : Nat} {L : List (Option Value)} {st : List Value} {h : g_H} {Q : g_Po} (hw : g_wp Model_problem d mc ms Q 6 [(0, 1, 0, 0, 0, 0, .iload_n 1), (1, 1, 0, 0, 0, 0, .iconst 0), (2, 1, 0, 0, 0, 2, .iconst 2), (3, 3, 108, 0, 3219, 3, .invokestatic 45)] cs ss L st h) : G Model_problem d mc ms cs ss 0 L st h Q := G.run (by decide +kernel) hw
theorem B_Model_problem_6 {d mc ms cs ss : Nat} {L : List (Option Value)} {st : List Value} {h : g_H} {Q : g_Po} (hw : g_wp Model_problem d mc ms Q 9 [(6, 3, 18, 0, 0, 0, .ifCond .eq 12)] cs ss L st h) : G Model_problem d mc ms cs ss 6 L st h Q := G.run (by decide +kernel) hw
theorem B_Model_problem_9 {d mc ms cs ss : Nat} {L : List (Option Value)} {st : List Value} {h : g_H} {Q : g_Po} (hw : g_wp Model_problem d mc ms Q 18 [(9, 1, 0, 0, 0, 0, .aload_n 0), (10, 3, 7, 6, 3151, 2, .getfield 22), (13, 1, 0, 0, 0, 0, .iload_n 1), (14, 1, 0, 0, 0, 0, .iaload), (15, 3, 19, 0, 0, 0, .goto 4)] cs ss L st h) : G Model_problem d mc ms cs ss 9 L st h Q := G.run (by decide +kernel) hw
theorem B_Model_problem_18 {d mc ms cs ss : Nat} {L : List (Option Value)} {st : List Value} {h : g_H} {Q : g_Po} (hw : g_wp Model_problem d mc ms Q 19 [(18, 1, 0, 0, 0, (-1), .iconst (-1))] cs ss L st h) : G Model_problem d mc ms cs ss 18 L st h Q := G.run (by decide +kernel) hw
theorem B_Model_problem_19 {d mc ms cs ss : Nat} {L : List (Option Value)} {st : List Value} {h : g_H} {Q : g_Po} (hw : g_wp Model_problem d mc ms Q 20 [(19, 1, 0, 0, 0, 0, .ireturn)] cs ss L st h) : G Model_problem d mc ms cs ss 19 L st h Q := G.run (by decide +kernel) hw
/-! blocks of Model_undo -/
theorem ml_Model_undo : (g_m Model_undo).2.2.1 = 1 := rfl
theorem rt_Model_undo : (g_m Model_undo).2.2.2.1 = (some .int) := rfl
theorem B_Model_undo_0 {d mc ms cs ss : Nat} {L : List (Option Value)} {st : List Value} {h : g_H} {Q : g_Po} (hw : g_wp Model_undo d mc ms Q 7 [(0, 1, 0, 0, 0, 0, .aload_n 0), (1, 3, 7, 3, 3148, 0, .getfield 37), (4, 3, 10, 0, 0, 0, .ifCond .ne 6)] cs ss L st h) : G Model_undo d mc ms cs ss 0 L st h Q := G.run (by decide +kernel) hw
theorem B_Model_undo_7 {d mc ms cs ss : Nat} {L : List (Option Value)} {st : List Value} {h : g_H} {Q : g_Po} (hw : g_wp Model_undo d mc ms Q 10 [(7, 2, 0, 0, 0, (-3), .bipush (-3)), (9, 1, 0, 0, 0, 0, .ireturn)] cs ss L st h) : G Model_undo d mc ms cs ss 7 L st h Q := G.run (by decide +kernel) hw
theorem B_Model_undo_10 {d mc ms cs ss : Nat} {L : List (Option Value)} {st : List Value} {h : g_H} {Q : g_Po} (hw : g_wp Model_undo d mc ms Q 40 [(10, 1, 0, 0, 0, 0, .aload_n 0), (11, 1, 0, 0, 0, 0, .dup), (12, 3, 7, 3, 3148, 0, .getfield 37), (15, 1, 0, 0, 0, 1, .iconst 1), (16, 1, 0, 0, 0, 0, .isub), (17, 3, 7, 3, 3148, 0, .putfield 37), (20, 1, 0, 0, 0, 0, .aload_n 0), (21, 3, 7, 2, 3147, 2, .getfield 16), (24, 1, 0, 0, 0, 0, .aload_n 0), (25, 3, 7, 3, 3148, 0, .getfield 37), (28, 3, 0, 0, 0, 352, .sipush 352), (31, 1, 0, 0, 0, 0, .imul), (32, 1, 0, 0, 0, 0, .aload_n 0), (33, 3, 7, 0, 3145, 2, .getfield 7), (36, 1, 0, 0, 0, 0, .iconst 0), (37, 3, 109, 0, 3226, 4, .invokestatic 41)] cs ss L st h) : G Model_undo d mc ms cs ss 10 L st h Q := G.run (by decide +kernel) hw
theorem B_Model_undo_40 {d mc ms cs ss : Nat} {L : List (Option Value)} {st : List Value} {h : g_H} {Q : g_Po} (hw : g_wp Model_undo d mc ms Q 45 [(40, 1, 0, 0, 0, 0, .aload_n 0), (41, 3, 7, 3, 3148, 0, .getfield 37), (44, 1, 0, 0, 0, 0, .ireturn)] cs ss L st h) : G Model_undo d mc ms cs ss 40 L st h Q := G.run (by decide +kernel) hw
/-! blocks of Model_digest -/
theorem ml_Model_digest : (g_m Model_digest).2.2.1 = 5 := rfl
theorem rt_Model_digest : (g_m Model_digest).2.2.2.1 = (some .long) := rfl
theorem B_Model_digest_0 {d mc ms cs ss : Nat} {L : List (Option Value)} {st : List Value} {h : g_H} {Q : g_Po} (hw : g_wp Model_digest d mc ms Q 34 [(0, 3, 0, 0, 5091, 866, .ldc2_w 287), (3, 1, 0, 0, 0, 0, .lstore_n 1), (4, 3, 0, 0, 5092, 31, .ldc2_w 289), (7, 1, 0, 0, 0, 0, .lload_n 1), (8, 1, 0, 0, 0, 0, .lmul), (9, 1, 0, 0, 0, 0, .aload_n 0), (10, 3, 7, 0, 3145, 2, .getfield 7), (13, 1, 0, 0, 0, 1, .iconst 1), (14, 1, 0, 0, 0, 0, .iaload), (15, 1, 0, 0, 0, 0, .i2l), (16, 1, 0, 0, 0, 0, .ladd), (17, 1, 0, 0, 0, 0, .lstore_n 1), (18, 3, 0, 0, 5092, 31, .ldc2_w 289), (21, 1, 0, 0, 0, 0, .lload_n 1), (22, 1, 0, 0, 0, 0, .lmul), (23, 1, 0, 0, 0, 0, .aload_n 0), (24, 3, 7, 0, 3145, 2, .getfield 7), (27, 1, 0, 0, 0, 0, .iconst 0), (28, 1, 0, 0, 0, 0, .iaload), (29, 1, 0, 0, 0, 0, .i2l), (30, 1, 0, 0, 0, 0, .ladd), (31, 1, 0, 0, 0, 0, .lstore_n 1), (32, 1, 0, 0, 0, 0, .iconst 0), (33, 1, 0, 0, 0, 0, .istore_n 3)] cs ss L st h) : G Model_digest d mc ms cs ss 0 L st h Q := G.run (by decide +kernel) hw
theorem B_Model_digest_34 {d mc ms cs ss : Nat} {L : List (Option Value)} {st : List Value} {h : g_H} {Q : g_Po} (hw : g_wp Model_digest d mc ms Q 44 [(34, 1, 0, 0, 0, 0, .iload_n 3), (35, 1, 0, 0, 0, 0, .aload_n 0), (36, 3, 7, 0, 3145, 2, .getfield 7), (39, 1, 0, 0, 0, 0, .iconst 0), (40, 1, 0, 0, 0, 0, .iaload), (41, 3, 115, 0, 0, 0, .if_icmp .ge 74)] cs ss L st h) : G Model_digest d mc ms cs ss 34 L st h Q := G.run (by decide +kernel) hw
theorem B_Model_digest_44 {d mc ms cs ss : Nat} {L : List (Option Value)} {st : List Value} {h : g_H} {Q : g_Po} (hw : g_wp Model_digest d mc ms Q 47 [(44, 1, 0, 0, 0, 0, .iconst 0), (45, 2, 0, 0, 0, 0, .istore 4)] cs ss L st h) : G Model_digest d mc ms cs ss 44 L st h Q := G.run (by decide +kernel) hw
theorem B_Model_digest_47 {d mc ms cs ss : Nat} {L : List (Option Value)} {st : List Value} {h : g_H} {Q : g_Po} (hw : g_wp Model_digest d mc ms Q 54 [(47, 2, 0, 0, 0, 0, .iload 4), (49, 2, 0, 0, 0, 9, .bipush 9), (51, 3, 75, 0, 0, 0, .if_icmp .gt 24)] cs ss L st h) : G Model_digest d mc ms cs ss 47 L st h Q := G.run (by decide +kernel) hw
theorem B_Model_digest_54 {d mc ms cs ss : Nat} {L : List (Option Value)} {st : List Value} {h : g_H} {Q : g_Po} (hw : g_wp Model_digest d mc ms Q 66 [(54, 3, 0, 0, 5092, 31, .ldc2_w 289), (57, 1, 0, 0, 0, 0, .lload_n 1), (58, 1, 0, 0, 0, 0, .lmul), (59, 1, 0, 0, 0, 0, .aload_n 0), (60, 1, 0, 0, 0, 0, .iload_n 3), (61, 2, 0, 0, 0, 0, .iload 4), (63, 3, 177, 7, 4195, 2, .invokevirtual 229)] cs ss L st h) : G Model_digest d mc ms cs ss 54 L st h Q := G.run (by decide +kernel) hw
theorem B_Model_digest_66 {d mc ms cs ss : Nat} {L : List (Option Value)} {st : List Value} {h : g_H} {Q : g_Po} (hw : g_wp Model_digest d mc ms Q 75 [(66, 1, 0, 0, 0, 0, .i2l), (67, 1, 0, 0, 0, 0, .ladd), (68, 1, 0, 0, 0, 0, .lstore_n 1), (69, 3, 0, 0, 0, 1, .iinc 4 1), (72, 3, 47, 0, 0, 0, .goto (-25))] cs ss L st h) : G Model_digest d mc ms cs ss 66 L st h Q := G.run (by decide +kernel) hw
theorem B_Model_digest_75 {d mc ms cs ss : Nat} {L : List (Option Value)} {st : List Value} {h : g_H} {Q : g_Po} (hw : g_wp Model_digest d mc ms Q 78 [(75, 1, 0, 0, 0, 0, .iconst 0), (76, 2, 0, 0, 0, 0, .istore 4)] cs ss L st h) : G Model_digest d mc ms cs ss 75 L st h Q := G.run (by decide +kernel) hw
theorem B_Model_digest_78 {d mc ms cs ss : Nat} {L : List (Option Value)} {st : List Value} {h : g_H} {Q : g_Po} (hw : g_wp Model_digest d mc ms Q 85 [(78, 2, 0, 0, 0, 0, .iload 4), (80, 1, 0, 0, 0, 0, .aload_n 0), (81, 1, 0, 0, 0, 0, .iload_n 3), (82, 3, 119, 7, 4047, 1, .invokevirtual 57)] cs ss L st h) : G Model_digest d mc ms cs ss 78 L st h Q := G.run (by decide +kernel) hw
theorem B_Model_digest_85 {d mc ms cs ss : Nat} {L : List (Option Value)} {st : List Value} {h : g_H} {Q : g_Po} (hw : g_wp Model_digest d mc ms Q 88 [(85, 3, 109, 0, 0, 0, .if_icmp .ge 24)] cs ss L st h) : G Model_digest d mc ms cs ss 85 L st h Q := G.run (by decide +kernel) hw
theorem B_Model_digest_88 {d mc ms cs ss : Nat} {L : List (Option Value)} {st : List Value} {h : g_H} {Q : g_Po} (hw : g_wp Model_digest d mc ms Q 100 [(88, 3, 0, 0, 5092, 31, .ldc2_w 289), (91, 1, 0, 0, 0, 0, .lload_n 1), (92, 1, 0, 0, 0, 0, .lmul), (93, 1, 0, 0, 0, 0, .aload_n 0), (94, 1, 0, 0, 0, 0, .iload_n 3), (95, 2, 0, 0, 0, 0, .iload 4), (97, 3, 121, 7, 4051, 2, .invokevirtual 95)] cs ss L st h) : G Model_digest d mc ms cs ss 88 L st h Q := G.run (by decide +kernel) hw
theorem B_Model_digest_100 {d mc ms cs ss : Nat} {L : List (Option Value)} {st : List Value} {h : g_H} {Q : g_Po} (hw : g_wp Model_digest d mc ms Q 109 [(100, 1, 0, 0, 0, 0, .i2l), (101, 1, 0, 0, 0, 0, .ladd), (102, 1, 0, 0, 0, 0, .lstore_n 1), (103, 3, 0, 0, 0, 1, .iinc 4 1), (106, 3, 78, 0, 0, 0, .goto (-28))] cs ss L st h) : G Model_digest d mc ms cs ss 100 L st h Q := G.run (by decide +kernel) hw
theorem B_Model_digest_109 {d mc ms cs ss : Nat} {L : List (Option Value)} {st : List Value} {h : g_H} {Q : g_Po} (hw : g_wp Model_digest d mc ms Q 115 [(109, 3, 0, 0, 0, 1, .iinc 3 1), (112, 3, 34, 0, 0, 0, .goto (-78))] cs ss L st h) : G Model_digest d mc ms cs ss 109 L st h Q := G.run (by decide +kernel) hw
theorem B_Model_digest_115 {d mc ms cs ss : Nat} {L : List (Option Value)} {st : List Value} {h : g_H} {Q : g_Po} (hw : g_wp Model_digest d mc ms Q 117 [(115, 1, 0, 0, 0, 0, .iconst 0), (116, 1, 0, 0, 0, 0, .istore_n 3)] cs ss L st h) : G Model_digest d mc ms cs ss 115 L st h Q := G.run (by decide +kernel) hw
theorem B_Model_digest_117 {d mc ms cs ss : Nat} {L : List (Option Value)} {st : List Value} {h : g_H} {Q : g_Po} (hw : g_wp Model_digest d mc ms Q 127 [(117, 1, 0, 0, 0, 0, .iload_n 3), (118, 1, 0, 0, 0, 0, .aload_n 0), (119, 3, 7, 0, 3145, 2, .getfield 7), (122, 1, 0, 0, 0, 0, .iconst 0), (123, 1, 0, 0, 0, 0, .iaload), (124, 3, 170, 0, 0, 0, .if_icmp .ge 46)] cs ss L st h) : G Model_digest d mc ms cs ss 117 L st h Q := G.run (by decide +kernel) hw
theorem B_Model_digest_127 {d mc ms cs ss : Nat} {L : List (Option Value)} {st : List Value} {h : g_H} {Q : g_Po} (hw : g_wp Model_digest d mc ms Q 132 [(127, 1, 0, 0, 0, 0, .iload_n 3), (128, 1, 0, 0, 0, 1, .iconst 1), (129, 1, 0, 0, 0, 0, .iadd), (130, 2, 0, 0, 0, 0, .istore 4)] cs ss L st h) : G Model_digest d mc ms cs ss 127 L st h Q := G.run (by decide +kernel) hw
theorem B_Model_digest_132 {d mc ms cs ss : Nat} {L : List (Option Value)} {st : List Value} {h : g_H} {Q : g_Po} (hw : g_wp Model_digest d mc ms Q 143 [(132, 2, 0, 0, 0, 0, .iload 4), (134, 1, 0, 0, 0, 0, .aload_n 0), (135, 3, 7, 0, 3145, 2, .getfield 7), (138, 1, 0, 0, 0, 0, .iconst 0), (139, 1, 0, 0, 0, 0, .iaload), (140, 3, 164, 0, 0, 0, .if_icmp .ge 24)] cs ss L st h) : G Model_digest d mc ms cs ss 132 L st h Q := G.run (by decide +kernel) hw
theorem B_Model_digest_143 {d mc ms cs ss : Nat} {L : List (Option Value)} {st : List Value} {h : g_H} {Q : g_Po} (hw : g_wp Model_digest d mc ms Q 155 [(143, 3, 0, 0, 5092, 31, .ldc2_w 289), (146, 1, 0, 0, 0, 0, .lload_n 1), (147, 1, 0, 0, 0, 0, .lmul), (148, 1, 0, 0, 0, 0, .aload_n 0), (149, 1, 0, 0, 0, 0, .iload_n 3), (150, 2, 0, 0, 0, 0, .iload 4), (152, 3, 175, 7, 5000, 2, .invokevirtual 232)] cs ss L st h) : G Model_digest d mc ms cs ss 143 L st h Q := G.run (by decide +kernel) hw
theorem B_Model_digest_155 {d mc ms cs ss : Nat} {L : List (Option Value)} {st : List Value} {h : g_H} {Q : g_Po} (hw : g_wp Model_digest d mc ms Q 164 [(155, 1, 0, 0, 0, 0, .i2l), (156, 1, 0, 0, 0, 0, .ladd), (157, 1, 0, 0, 0, 0, .lstore_n 1), (158, 3, 0, 0, 0, 1, .iinc 4 1), (161, 3, 132, 0, 0, 0, .goto (-29))] cs ss L st h) : G Model_digest d mc ms cs ss 155 L st h Q := G.run (by decide +kernel) hw
theorem B_Model_digest_164 {d mc ms cs ss : Nat} {L : List (Option Value)} {st : List Value} {h : g_H} {Q : g_Po} (hw : g_wp Model_digest d mc ms Q 170 [(164, 3, 0, 0, 0, 1, .iinc 3 1), (167, 3, 117, 0, 0, 0, .goto (-50))] cs ss L st h) : G Model_digest d mc ms cs ss 164 L st h Q := G.run (by decide +kernel) hw
theorem B_Model_digest_170 {d mc ms cs ss : Nat} {L : List (Option Value)} {st : List Value} {h : g_H} {Q : g_Po} (hw : g_wp Model_digest d mc ms Q 172 [(170, 1, 0, 0, 0, 0, .lload_n 1), (171, 1, 0, 0, 0, 0, .lreturn)] cs ss L st h) : G Model_digest d mc ms cs ss 170 L st h Q := G.run (by decide +kernel) hw
theorem mst.tx {r r' : Nat → Int} {A A' : Nat → Nat → Int} {s : Sta} {Hs : List Sta} {T T' : List Int} {l : Int × Int × Int} (q : mst r A (s, Hs, T, l)) (h5 : r' 5 = T'.length) (h4 : ∀ i, i < T'.length → A' 4 i = pg T' i) (h3 : r' 3 = r 3) (hA : ∀ n, n = 1 ∨ n = 3 ∨ n = 5 → A' n = A n) : mst r' A' (s, Hs, T', l) := by
  obtain ⟨q1, q2, q3, q4, q5, q6, q7, q8⟩ := q
  refine ⟨?_, h3.trans q2, ?_, h5, h4, ?_, ?_, ?_⟩
  · rw [hA 1 (by omega)]; exact q1
  · rw [hA 3 (by omega)]; exact q3
  · rw [hA 5 (by omega)]; exact q6
  · rw [hA 5 (by omega)]; exact q7
  · rw [hA 5 (by omega)]; exact q8
theorem Mdl_type_c {d M : Nat} (hd : 9 ≤ d) {W : Wd} {c : Int} {h : g_H} {Q : g_Po} (w : wfW W) (hp : mrep h M W) (hc : i32 c) (hQ : MQ9 M h Q (sp_type W c)) : Call Model_type d 0 0 [.ref M, .int (I c)] h Q := by
  have d1 : 1 ≤ d := by omega
  obtain ⟨⟨Ss, pn⟩, Hs, T, l⟩ := W
  obtain ⟨r, A, hm, ht⟩ := id hp
  have h5 : r 5 = T.length := ht.2.2.2.1
  have hT := w.g.2.2.2.2.1
  unfold sp_type at hQ
  dsimp only at hQ
  refine Call.intro (by rfl) (Nat.le_of_ble_eq_true rfl) ?_
  refine G.eqL (L := [some (.ref _), some (.int _)]) rfl ?_
  refine B_Model_type_0 ?_
  simp only [wp_cons, wp_nil, List.getElem?_cons_zero, List.getElem?_cons_succ, List.set_cons_zero, List.set_cons_succ, s_iload_n1, ldI_s, s_bipush, s_invokestatic, rc_s, ob_s, List.drop_succ_cons, List.drop_zero, List.take_succ_cons, List.take_zero, List.reverse_cons, List.reverse_nil, List.nil_append, List.cons_append, List.length_cons, List.length_nil, Nat.reduceEqDiff, reduceIte, p1_s, p2_s, l1_s, d1, Int.reduceToNat, Nat.reduceAdd, Nat.reduceLeDiff, true_and, and_true, Nat.le_refl, true_implies, forall_const, not_false_eq_true, false_implies, not_true_eq_false, reduceCtorEq, tl_s, tl_n, rf_s, true_or, or_true, hm.c, h5]
  refine Mdl_within_c hc (by omega) (by omega) (fun c1 => ?_) (fun c1 => ?_)
  · rw [if_neg (fun q => q c1)] at hQ
    by_cases c2 : 80 ≤ T.length
    · rw [if_pos c2] at hQ
      refine B_Model_type_8 ?_
      simp only [wp_cons, wp_nil, List.getElem?_cons_zero, List.getElem?_cons_succ, List.set_cons_zero, List.set_cons_succ, s_ifCond_ne, p1_s, true_and, and_true, Nat.le_refl, true_implies, forall_const, not_false_eq_true, false_implies, not_true_eq_false, reduceCtorEq, tl_s, tl_n, rf_s, List.cons_append, List.nil_append, true_or, or_true, hm.c, h5]
      refine b_ne (by omega) (by omega) (fun cc => ?_) (fun cc => absurd cc (by omega))
      refine B_Model_type_14 ?_
      simp only [wp_cons, wp_nil, List.getElem?_cons_zero, List.getElem?_cons_succ, List.set_cons_zero, List.set_cons_succ, s_aload_n0, ldA_r, ldA_n, s_getfield, pR_s, ob_s, gt_s, s_bipush, s_if_icmp_ne, p2_s, true_and, and_true, Nat.le_refl, true_implies, forall_const, not_false_eq_true, false_implies, not_true_eq_false, reduceCtorEq, tl_s, tl_n, rf_s, List.cons_append, List.nil_append, true_or, or_true, hm.c, h5]
      refine b_ne (by omega) (by omega) (fun cc => absurd cc (by omega)) (fun cc => ?_)
      refine B_Model_type_23 ?_
      simp only [wp_cons, wp_nil, List.getElem?_cons_zero, List.getElem?_cons_succ, List.set_cons_zero, List.set_cons_succ, s_bipush, s_ireturn, p1_s, rI_i, rI_z, rI_c, z_01, z_11, rt_Model_type, true_and, and_true, Nat.le_refl, true_implies, forall_const, not_false_eq_true, false_implies, not_true_eq_false, reduceCtorEq, tl_s, tl_n, rf_s, List.cons_append, List.nil_append, true_or, or_true, hm.c, h5]
      exact hQ h chg.rf hp
    · rw [if_neg c2] at hQ
      have m4 := hm.a4 T.length c
      have m5 := m4.f5 ((T.length : Int) + 1)
      refine B_Model_type_8 ?_
      simp only [wp_cons, wp_nil, List.getElem?_cons_zero, List.getElem?_cons_succ, List.set_cons_zero, List.set_cons_succ, s_ifCond_ne, p1_s, true_and, and_true, Nat.le_refl, true_implies, forall_const, not_false_eq_true, false_implies, not_true_eq_false, reduceCtorEq, tl_s, tl_n, rf_s, List.cons_append, List.nil_append, true_or, or_true, hm.c, hm.g4, h5, m4.c, m5.c, ui_s, upd_ui, ex_ix (i := T.length) (n := 80) (by omega), ex_iy (i := T.length) (n := 80) (by omega), Nat.reduceLT, Nat.reduceAdd]
      refine b_ne (by omega) (by omega) (fun cc => ?_) (fun cc => absurd cc (by omega))
      refine B_Model_type_14 ?_
      simp only [wp_cons, wp_nil, List.getElem?_cons_zero, List.getElem?_cons_succ, List.set_cons_zero, List.set_cons_succ, s_aload_n0, ldA_r, ldA_n, s_getfield, pR_s, ob_s, gt_s, s_bipush, s_if_icmp_ne, p2_s, true_and, and_true, Nat.le_refl, true_implies, forall_const, not_false_eq_true, false_implies, not_true_eq_false, reduceCtorEq, tl_s, tl_n, rf_s, List.cons_append, List.nil_append, true_or, or_true, hm.c, hm.g4, h5, m4.c, m5.c, ui_s, upd_ui, ex_ix (i := T.length) (n := 80) (by omega), ex_iy (i := T.length) (n := 80) (by omega), Nat.reduceLT, Nat.reduceAdd]
      refine b_ne (by omega) (by omega) (fun cc => ?_) (fun cc => absurd cc (by omega))
      refine B_Model_type_26 ?_
      simp only [wp_cons, wp_nil, List.getElem?_cons_zero, List.getElem?_cons_succ, List.set_cons_zero, List.set_cons_succ, s_aload_n0, ldA_r, ldA_n, s_getfield, pR_s, ob_s, gt_s, s_iload_n1, ldI_s, s_iastore, iiR_s, ia_s, s_dup, p1v_i, p1v_r, s_iconst, s_iadd, p2_s, I_add, s_putfield, pv_i, pv_z, pv_r, pv_f, z_01, z_11, List.length_cons, List.length_nil, s_ireturn, p1_s, rI_i, rI_z, rI_c, rt_Model_type, true_and, and_true, Nat.le_refl, true_implies, forall_const, not_false_eq_true, false_implies, not_true_eq_false, reduceCtorEq, tl_s, tl_n, rf_s, List.cons_append, List.nil_append, true_or, or_true, hm.c, hm.g4, h5, m4.c, m5.c, ui_s, upd_ui, ex_ix (i := T.length) (n := 80) (by omega), ex_iy (i := T.length) (n := 80) (by omega), Nat.reduceLT, Nat.reduceAdd]
      refine hQ _ ((chg.set _ (by omega)).tr (chg.set _ (by omega))) ⟨_, _, m5, ht.tx (by rw [ui_s, List.length_append]; rfl) (fun i hi => ?_) (ui_n _ _ (by omega)) (fun n hn => ua_n _ _ _ (by omega))⟩
      rw [List.length_append] at hi
      replace hi : i < T.length + 1 := hi
      rw [ua_s]
      by_cases e : i = T.length
      · rw [e, ui_s, pg_app_r _ _ (Nat.le_refl _), Nat.sub_self]; rfl
      · rw [ui_n _ _ e, pg_app_l _ _ (by omega)]; exact ht.2.2.2.2.1 i (by show i < T.length; omega)
  · rw [if_pos c1] at hQ
    refine B_Model_type_8 ?_
    simp only [wp_cons, wp_nil, List.getElem?_cons_zero, List.getElem?_cons_succ, List.set_cons_zero, List.set_cons_succ, s_ifCond_ne, p1_s, true_and, and_true, Nat.le_refl, true_implies, forall_const, not_false_eq_true, false_implies, not_true_eq_false, reduceCtorEq, tl_s, tl_n, rf_s, List.cons_append, List.nil_append, true_or, or_true, hm.c, h5]
    refine B_Model_type_11 ?_
    simp only [wp_cons, wp_nil, List.getElem?_cons_zero, List.getElem?_cons_succ, List.set_cons_zero, List.set_cons_succ, s_bipush, s_ireturn, p1_s, rI_i, rI_z, rI_c, z_01, z_11, rt_Model_type, true_and, and_true, Nat.le_refl, true_implies, forall_const, not_false_eq_true, false_implies, not_true_eq_false, reduceCtorEq, tl_s, tl_n, rf_s, List.cons_append, List.nil_append, true_or, or_true, hm.c, h5]
    exact hQ h chg.rf hp
theorem Mdl_clear_c {d M : Nat} (hd : 9 ≤ d) {W : Wd} {h : g_H} {Q : g_Po} (w : wfW W) (hp : mrep h M W) (hQ : MQ9 M h Q (sp_clear W)) : Call Model_clearText d 0 0 [.ref M] h Q := by
  have d1 : 1 ≤ d := by omega
  obtain ⟨⟨Ss, pn⟩, Hs, T, l⟩ := W
  obtain ⟨r, A, hm, ht⟩ := id hp
  have h5 : r 5 = T.length := ht.2.2.2.1
  have m5 := hm.f5 0
  unfold sp_clear at hQ
  dsimp only at hQ
  refine Call.intro (by rfl) (Nat.le_of_ble_eq_true rfl) ?_
  refine G.eqL (L := [some (.ref _), none]) rfl ?_
  refine B_Model_clearText_0 ?_
  simp only [wp_cons, wp_nil, List.getElem?_cons_zero, List.getElem?_cons_succ, List.set_cons_zero, List.set_cons_succ, s_aload_n0, ldA_r, ldA_n, s_getfield, pR_s, ob_s, gt_s, s_istore_n1, p1_s, s1_0, s1_s, kx_i, kx_r, kx_n, kx_l, kx_0, s_iconst, s_putfield, pv_i, pv_z, pv_r, pv_f, z_01, z_11, List.length_cons, List.length_nil, s_iload_n1, ldI_s, s_ireturn, rI_i, rI_z, rI_c, rt_Model_clearText, true_and, and_true, Nat.le_refl, true_implies, forall_const, not_false_eq_true, false_implies, not_true_eq_false, reduceCtorEq, tl_s, tl_n, rf_s, List.cons_append, List.nil_append, true_or, or_true, hm.c, h5, m5.c, Nat.reduceLT, Nat.reduceAdd]
  exact hQ _ (chg.set _ (by omega)) ⟨_, _, m5, ht.tx (by rw [ui_s]; rfl) (fun i hi => absurd hi (by simp)) (ui_n _ _ (by omega)) (fun n hn => rfl)⟩
theorem Mdl_prob_c {d M : Nat} (hd : 9 ≤ d) {W : Wd} {v : Int} {h : g_H} {Q : g_Po} (w : wfW W) (hp : mrep h M W) (hv : i32 v) (hQ : MQ9 M h Q (sp_prob W v)) : Call Model_problem d 0 0 [.ref M, .int (I v)] h Q := by
  have d1 : 1 ≤ d := by omega
  obtain ⟨⟨Ss, pn⟩, Hs, T, l⟩ := W
  obtain ⟨r, A, hm, ht⟩ := id hp
  obtain ⟨q1, q2, q3, q4, q5, q6, q7, q8⟩ := id ht
  dsimp only at q6 q7 q8
  unfold sp_prob at hQ
  dsimp only at hQ
  refine Call.intro (by rfl) (Nat.le_of_ble_eq_true rfl) ?_
  refine G.eqL (L := [some (.ref _), some (.int _)]) rfl ?_
  refine B_Model_problem_0 ?_
  simp only [wp_cons, wp_nil, List.getElem?_cons_zero, List.getElem?_cons_succ, List.set_cons_zero, List.set_cons_succ, s_iload_n1, ldI_s, s_iconst, s_invokestatic, rc_s, ob_s, List.drop_succ_cons, List.drop_zero, List.take_succ_cons, List.take_zero, List.reverse_cons, List.reverse_nil, List.nil_append, List.cons_append, List.length_cons, List.length_nil, Nat.reduceEqDiff, reduceIte, p1_s, p2_s, l1_s, d1, Int.reduceToNat, Nat.reduceAdd, Nat.reduceLeDiff, true_and, and_true, Nat.le_refl, true_implies, forall_const, not_false_eq_true, false_implies, not_true_eq_false, reduceCtorEq, tl_s, tl_n, rf_s, true_or, or_true, hm.c]
  refine Mdl_within_c hv (by omega) (by omega) (fun c1 => ?_) (fun c1 => ?_)
  · obtain ⟨k, rfl, hk⟩ := nat_of (n := 3) (s := v) (show 0 ≤ v ∧ v < ((3 : Nat) : Int) by omega)
    have e : A 5 k = (if (k : Int) = 0 then l.1 else if (k : Int) = 1 then l.2.1 else if (k : Int) = 2 then l.2.2 else -1) := by
      have : k = 0 ∨ k = 1 ∨ k = 2 := by omega
      rcases this with rfl | rfl | rfl
      · exact q6
      · exact q7
      · exact q8
    rw [← e] at hQ
    refine B_Model_problem_6 ?_
    simp only [wp_cons, wp_nil, List.getElem?_cons_zero, List.getElem?_cons_succ, List.set_cons_zero, List.set_cons_succ, s_ifCond_eq, p1_s, true_and, and_true, Nat.le_refl, true_implies, forall_const, not_false_eq_true, false_implies, not_true_eq_false, reduceCtorEq, tl_s, tl_n, rf_s, List.cons_append, List.nil_append, true_or, or_true, hm.c, hm.g5, ex_ix (i := k) (n := 3) (by omega)]
    refine b_eq (by omega) (by omega) (fun cc => absurd cc (by omega)) (fun cc => ?_)
    refine B_Model_problem_9 ?_
    simp only [wp_cons, wp_nil, List.getElem?_cons_zero, List.getElem?_cons_succ, List.set_cons_zero, List.set_cons_succ, s_aload_n0, ldA_r, ldA_n, s_getfield, pR_s, ob_s, gt_s, s_iload_n1, ldI_s, s_iaload, iR_s, ia_s, s_goto, true_and, and_true, Nat.le_refl, true_implies, forall_const, not_false_eq_true, false_implies, not_true_eq_false, reduceCtorEq, tl_s, tl_n, rf_s, List.cons_append, List.nil_append, true_or, or_true, hm.c, hm.g5, ex_ix (i := k) (n := 3) (by omega)]
    refine B_Model_problem_19 ?_
    simp only [wp_cons, wp_nil, List.getElem?_cons_zero, List.getElem?_cons_succ, List.set_cons_zero, List.set_cons_succ, s_ireturn, p1_s, rI_i, rI_z, rI_c, z_01, z_11, rt_Model_problem, true_and, and_true, Nat.le_refl, true_implies, forall_const, not_false_eq_true, false_implies, not_true_eq_false, reduceCtorEq, tl_s, tl_n, rf_s, List.cons_append, List.nil_append, true_or, or_true, hm.c, hm.g5, ex_ix (i := k) (n := 3) (by omega)]
    exact hQ h chg.rf hp
  · rw [if_neg (by omega), if_neg (by omega), if_neg (by omega)] at hQ
    refine B_Model_problem_6 ?_
    simp only [wp_cons, wp_nil, List.getElem?_cons_zero, List.getElem?_cons_succ, List.set_cons_zero, List.set_cons_succ, s_ifCond_eq, p1_s, true_and, and_true, Nat.le_refl, true_implies, forall_const, not_false_eq_true, false_implies, not_true_eq_false, reduceCtorEq, tl_s, tl_n, rf_s, List.cons_append, List.nil_append, true_or, or_true, hm.c]
    refine B_Model_problem_18 ?_
    simp only [wp_cons, wp_nil, List.getElem?_cons_zero, List.getElem?_cons_succ, List.set_cons_zero, List.set_cons_succ, s_iconst, true_and, and_true, Nat.le_refl, true_implies, forall_const, not_false_eq_true, false_implies, not_true_eq_false, reduceCtorEq, tl_s, tl_n, rf_s, List.cons_append, List.nil_append, true_or, or_true, hm.c]
    refine B_Model_problem_19 ?_
    simp only [wp_cons, wp_nil, List.getElem?_cons_zero, List.getElem?_cons_succ, List.set_cons_zero, List.set_cons_succ, s_ireturn, p1_s, rI_i, rI_z, rI_c, z_01, z_11, rt_Model_problem, true_and, and_true, Nat.le_refl, true_implies, forall_const, not_false_eq_true, false_implies, not_true_eq_false, reduceCtorEq, tl_s, tl_n, rf_s, List.cons_append, List.nil_append, true_or, or_true, hm.c]
    exact hQ h chg.rf hp
theorem Mdl_undo_c {d M : Nat} (hd : 9 ≤ d) {W : Wd} {h : g_H} {Q : g_Po} (w : wfW W) (hp : mrep h M W) (hQ : MQ9 M h Q (sp_undo W)) : Call Model_undo d 0 0 [.ref M] h Q := by
  have d1 : 1 ≤ d := by omega
  obtain ⟨s, Hs, T, l⟩ := W
  obtain ⟨r, A, hm, ht⟩ := id hp
  obtain ⟨q1, q2, q3, q4, q5, q6, q7, q8⟩ := id ht
  have hH := w.2.1
  dsimp only at q2 q3 hH
  unfold sp_undo at hQ
  dsimp only at hQ
  refine Call.intro (by rfl) (Nat.le_of_ble_eq_true rfl) ?_
  refine G.eqL (L := [some (.ref _)]) rfl ?_
  by_cases c : Hs.length = 0
  · rw [if_pos c] at hQ
    refine B_Model_undo_0 ?_
    simp only [wp_cons, wp_nil, List.getElem?_cons_zero, List.getElem?_cons_succ, List.set_cons_zero, List.set_cons_succ, s_aload_n0, ldA_r, ldA_n, s_getfield, pR_s, ob_s, gt_s, s_ifCond_ne, p1_s, true_and, and_true, Nat.le_refl, true_implies, forall_const, not_false_eq_true, false_implies, not_true_eq_false, reduceCtorEq, tl_s, tl_n, rf_s, List.cons_append, List.nil_append, true_or, or_true, hm.c, q2]
    refine b_ne (by omega) (by omega) (fun cc => absurd cc (by omega)) (fun cc => ?_)
    refine B_Model_undo_7 ?_
    simp only [wp_cons, wp_nil, List.getElem?_cons_zero, List.getElem?_cons_succ, List.set_cons_zero, List.set_cons_succ, s_bipush, s_ireturn, p1_s, rI_i, rI_z, rI_c, z_01, z_11, rt_Model_undo, true_and, and_true, Nat.le_refl, true_implies, forall_const, not_false_eq_true, false_implies, not_true_eq_false, reduceCtorEq, tl_s, tl_n, rf_s, List.cons_append, List.nil_append, true_or, or_true, hm.c, q2]
    exact hQ h chg.rf hp
  · rw [if_neg c] at hQ
    have m3 := hm.f3 ((Hs.length : Int) - 1)
    refine B_Model_undo_0 ?_
    simp only [wp_cons, wp_nil, List.getElem?_cons_zero, List.getElem?_cons_succ, List.set_cons_zero, List.set_cons_succ, s_aload_n0, ldA_r, ldA_n, s_getfield, pR_s, ob_s, gt_s, s_ifCond_ne, p1_s, true_and, and_true, Nat.le_refl, true_implies, forall_const, not_false_eq_true, false_implies, not_true_eq_false, reduceCtorEq, tl_s, tl_n, rf_s, List.cons_append, List.nil_append, true_or, or_true, hm.c, q2, m3.c, ui_s, Nat.reduceLT, Nat.reduceAdd]
    refine b_ne (by omega) (by omega) (fun cc => ?_) (fun cc => absurd cc (by omega))
    refine B_Model_undo_10 ?_
    simp only [wp_cons, wp_nil, List.getElem?_cons_zero, List.getElem?_cons_succ, List.set_cons_zero, List.set_cons_succ, s_aload_n0, ldA_r, ldA_n, s_dup, p1v_i, p1v_r, s_getfield, pR_s, ob_s, gt_s, s_iconst, s_isub, p2_s, I_sub, s_putfield, pv_i, pv_z, pv_r, pv_f, z_01, z_11, List.length_cons, List.length_nil, s_sipush, s_imul, I_mul, s_invokestatic, rc_s, List.drop_succ_cons, List.drop_zero, List.take_succ_cons, List.take_zero, List.reverse_cons, List.reverse_nil, List.nil_append, List.cons_append, Nat.reduceEqDiff, reduceIte, p1_s, l1_s, d1, Int.reduceToNat, Nat.reduceAdd, Nat.reduceLeDiff, true_and, and_true, Nat.le_refl, true_implies, forall_const, not_false_eq_true, false_implies, not_true_eq_false, reduceCtorEq, tl_s, tl_n, rf_s, true_or, or_true, hm.c, q2, m3.c, ui_s, Nat.reduceLT]
    rw [show (((Hs.length : Int) - 1) * 352) = (((Hs.length - 1) * 352 : Nat) : Int) by omega]
    refine Mdl_copies_c (t := 0) m3.g3 m3.g1 (by omega) (by omega) (by omega) (by omega) (by omega) (fun h4 G4 c4 g4 e7 _ => ?_)
    have m4 := m3.r1 c4 g4
    refine B_Model_undo_40 ?_
    simp only [wp_cons, wp_nil, List.getElem?_cons_zero, List.getElem?_cons_succ, List.set_cons_zero, List.set_cons_succ, s_aload_n0, ldA_r, ldA_n, s_getfield, pR_s, ob_s, gt_s, s_ireturn, p1_s, rI_i, rI_z, rI_c, z_01, z_11, rt_Model_undo, true_and, and_true, Nat.le_refl, true_implies, forall_const, not_false_eq_true, false_implies, not_true_eq_false, reduceCtorEq, tl_s, tl_n, rf_s, List.cons_append, List.nil_append, true_or, or_true, m4.c, ui_s, Nat.reduceLT, Nat.reduceAdd]
    refine hQ h4 ((chg.set _ (by omega)).tr (c4.wd (by omega) (by omega))) ⟨_, _, m4, ?_, ?_, ?_, ?_, q5, q6, q7, q8⟩
    · show stR G4 (hg Hs (Hs.length - 1))
      refine (q3 (Hs.length - 1) (by omega)).cg (fun i hi => ?_) (hH.2 _ (by omega))
      have x := e7 i hi
      rw [Nat.zero_add] at x
      rw [x]
      show A 3 _ = A 3 _
      congr 1
      omega
    · rw [ui_s]; show (Hs.length : Int) - 1 = ((Hs.dropLast).length : Int); rw [List.length_dropLast]; omega
    · intro j hj
      replace hj : j < Hs.dropLast.length := hj
      rw [List.length_dropLast] at hj
      show stR (fun i => A 3 (352 * j + i)) (hg Hs.dropLast j)
      rw [hg_dl _ (by omega)]
      exact q3 j (by omega)
    · rw [ui_n _ _ (by omega)]; exact q4
theorem Mdl_dig_c {d M : Nat} (hd : 9 ≤ d) {W : Wd} {h : g_H} {Q : g_Po} (w : wfW W) (hp : mrep h M W) (hQ : Q (some (.long (J (sp_dig W).1))) h) : Call Model_digest d 0 0 [.ref M] h Q := by
  have d1 : 1 ≤ d := by omega
  obtain ⟨⟨Ss, pn⟩, Hs, T, l⟩ := W
  obtain ⟨r, A, hm, ht⟩ := id hp
  have wD := w.g.1
  have wl := w.g.1.l
  have hpn := w.g.2.1.1
  have hlen := wl.1
  have hr : stR (A 1) (Ss, pn) := ht.1
  have a0 : A 1 0 = Ss.length := hr.1
  have a1 : A 1 1 = pn.1.length := hr.2.1
  have k0 := ex_ie (x := 0) (i := 0) (n := 352) rfl (by omega)
  have k1 := ex_ie (x := 1) (i := 1) (n := 352) rfl (by omega)
  unfold sp_dig at hQ
  dsimp only at hQ
  have second : ∀ (m i : Nat) (x4 : Option Value), i + m = Ss.length → G Model_digest d 0 0 0 0 117 [some (.ref M), some (.long (J (dg3 Ss i (dg2 Ss Ss.length (31 * (31 * 866 + pn.1.length) + Ss.length))))), none, some (.int (I (i : Int))), x4] [] h Q := by
    intro m
    induction m with
    | zero =>
      intro i x4 hi
      obtain rfl : i = Ss.length := by omega
      refine B_Model_digest_117 ?_
      simp only [wp_cons, wp_nil, List.getElem?_cons_zero, List.getElem?_cons_succ, List.set_cons_zero, List.set_cons_succ, s_iload_n3, ldI_s, s_aload_n0, ldA_r, ldA_n, s_getfield, pR_s, ob_s, gt_s, s_iconst, s_iaload, iR_s, ia_s, s_if_icmp_ge, p2_s, true_and, and_true, Nat.le_refl, true_implies, forall_const, not_false_eq_true, false_implies, not_true_eq_false, reduceCtorEq, tl_s, tl_n, rf_s, List.cons_append, List.nil_append, true_or, or_true, hm.c, hm.g1, a0, k0, ex_ie]
      refine b_le (by omega) (by omega) (fun cc => ?_) (fun cc => absurd cc (by omega))
      refine B_Model_digest_170 ?_
      simp only [wp_cons, wp_nil, List.getElem?_cons_zero, List.getElem?_cons_succ, List.set_cons_zero, List.set_cons_succ, s_lload_n1, ldL_s, s_lreturn, l1_s, rt_Model_digest, true_and, and_true, Nat.le_refl, true_implies, forall_const, not_false_eq_true, false_implies, not_true_eq_false, reduceCtorEq, tl_s, tl_n, rf_s, List.cons_append, List.nil_append, true_or, or_true, hm.c, hm.g1, a0, k0, ex_ie]
      exact hQ
    | succ m ih =>
      intro i x4 hi
      have w1 := wD.2 i (by omega)
      have inner : ∀ (n k : Nat), k + n = Ss.length - (i + 1) → G Model_digest d 0 0 0 0 132 [some (.ref M), some (.long (J (hsh (fun k => cx2 (sg Ss i) (sg Ss (i + 1 + k))) k (dg3 Ss i (dg2 Ss Ss.length (31 * (31 * 866 + pn.1.length) + Ss.length)))))), none, some (.int (I (i : Int))), some (.int (I ((i + 1 + k : Nat) : Int)))] [] h Q := by
        intro n
        induction n with
        | zero =>
          intro k hk
          obtain rfl : k = Ss.length - (i + 1) := by omega
          refine B_Model_digest_132 ?_
          simp only [wp_cons, wp_nil, List.getElem?_cons_zero, List.getElem?_cons_succ, List.set_cons_zero, List.set_cons_succ, s_iload, ldI_s, s_aload_n0, ldA_r, ldA_n, s_getfield, pR_s, ob_s, gt_s, s_iconst, s_iaload, iR_s, ia_s, s_if_icmp_ge, p2_s, true_and, and_true, Nat.le_refl, true_implies, forall_const, not_false_eq_true, false_implies, not_true_eq_false, reduceCtorEq, tl_s, tl_n, rf_s, List.cons_append, List.nil_append, true_or, or_true, hm.c, hm.g1, a0, k0, ex_ie]
          refine b_le (by omega) (by omega) (fun cc => ?_) (fun cc => absurd cc (by omega))
          refine B_Model_digest_164 ?_
          simp only [wp_cons, wp_nil, List.getElem?_cons_zero, List.getElem?_cons_succ, List.set_cons_zero, List.set_cons_succ, s_iinc, ldI_s, s1_0, s1_s, kx_i, kx_r, kx_n, kx_l, kx_0, I_add, s_goto, true_and, and_true, Nat.le_refl, true_implies, forall_const, not_false_eq_true, false_implies, not_true_eq_false, reduceCtorEq, tl_s, tl_n, rf_s, List.cons_append, List.nil_append, true_or, or_true, hm.c, hm.g1, a0, k0, ex_ie]
          exact ih (i + 1) _ (by omega)
        | succ n ihn =>
          intro k hk
          have w2 := wD.2 (i + 1 + k) (by omega)
          have b := cx2_bd w1.2.1 w2.2.1
          refine B_Model_digest_132 ?_
          simp only [wp_cons, wp_nil, List.getElem?_cons_zero, List.getElem?_cons_succ, List.set_cons_zero, List.set_cons_succ, s_iload, ldI_s, s_aload_n0, ldA_r, ldA_n, s_getfield, pR_s, ob_s, gt_s, s_iconst, s_iaload, iR_s, ia_s, s_if_icmp_ge, p2_s, true_and, and_true, Nat.le_refl, true_implies, forall_const, not_false_eq_true, false_implies, not_true_eq_false, reduceCtorEq, tl_s, tl_n, rf_s, List.cons_append, List.nil_append, true_or, or_true, hm.c, hm.g1, a0, k0, ex_ie, I_J (show i32 (cx2 (sg Ss i) (sg Ss (i + 1 + k))) by omega)]
          refine b_le (by omega) (by omega) (fun cc => absurd cc (by omega)) (fun cc => ?_)
          refine B_Model_digest_143 ?_
          simp only [wp_cons, wp_nil, List.getElem?_cons_zero, List.getElem?_cons_succ, List.set_cons_zero, List.set_cons_succ, s_ldc2_w, s_lload_n1, ldL_s, s_lmul, l2_s, J_mul, s_aload_n0, ldA_r, ldA_n, s_iload_n3, ldI_s, s_iload, s_invokevirtual, rc_s, ob_s, List.drop_succ_cons, List.drop_zero, List.take_succ_cons, List.take_zero, List.reverse_cons, List.reverse_nil, List.nil_append, List.cons_append, List.length_cons, List.length_nil, d1, Int.reduceToNat, Nat.reduceAdd, Nat.reduceLeDiff, true_and, and_true, Nat.le_refl, true_implies, forall_const, not_false_eq_true, false_implies, not_true_eq_false, reduceCtorEq, tl_s, tl_n, rf_s, true_or, or_true, hm.c, hm.g1, a0, k0, ex_ie, I_J (show i32 (cx2 (sg Ss i) (sg Ss (i + 1 + k))) by omega)]
          refine Mdl_cx2_c (s := i) (t := i + 1 + k) (by omega) hm hr wl (by show i < Ss.length; omega) (by show i + 1 + k < Ss.length; omega) ?_
          refine B_Model_digest_155 ?_
          simp only [wp_cons, wp_nil, List.getElem?_cons_zero, List.getElem?_cons_succ, List.set_cons_zero, List.set_cons_succ, s_i2l, p1_s, s_ladd, l2_s, J_add, s_lstore_n1, l1_s, s2_0, s2_s, kx_i, kx_r, kx_n, kx_l, kx_0, s_iinc, ldI_s, s1_0, s1_s, I_add, s_goto, true_and, and_true, Nat.le_refl, true_implies, forall_const, not_false_eq_true, false_implies, not_true_eq_false, reduceCtorEq, tl_s, tl_n, rf_s, List.cons_append, List.nil_append, true_or, or_true, hm.c, hm.g1, a0, k0, ex_ie, I_J (show i32 (cx2 (sg Ss i) (sg Ss (i + 1 + k))) by omega)]
          exact ihn (k + 1) (by omega)
      refine B_Model_digest_117 ?_
      simp only [wp_cons, wp_nil, List.getElem?_cons_zero, List.getElem?_cons_succ, List.set_cons_zero, List.set_cons_succ, s_iload_n3, ldI_s, s_aload_n0, ldA_r, ldA_n, s_getfield, pR_s, ob_s, gt_s, s_iconst, s_iaload, iR_s, ia_s, s_if_icmp_ge, p2_s, true_and, and_true, Nat.le_refl, true_implies, forall_const, not_false_eq_true, false_implies, not_true_eq_false, reduceCtorEq, tl_s, tl_n, rf_s, List.cons_append, List.nil_append, true_or, or_true, hm.c, hm.g1, a0, k0, ex_ie]
      refine b_le (by omega) (by omega) (fun cc => absurd cc (by omega)) (fun cc => ?_)
      refine B_Model_digest_127 ?_
      simp only [wp_cons, wp_nil, List.getElem?_cons_zero, List.getElem?_cons_succ, List.set_cons_zero, List.set_cons_succ, s_iload_n3, ldI_s, s_iconst, s_iadd, p2_s, I_add, s_istore, p1_s, s1_0, s1_s, kx_i, kx_r, kx_n, kx_l, kx_0, true_and, and_true, Nat.le_refl, true_implies, forall_const, not_false_eq_true, false_implies, not_true_eq_false, reduceCtorEq, tl_s, tl_n, rf_s, List.cons_append, List.nil_append, true_or, or_true, hm.c, hm.g1, a0, k0, ex_ie]
      exact inner (Ss.length - (i + 1)) 0 (by omega)
  have first : ∀ (m i : Nat) (x4 : Option Value), i + m = Ss.length → G Model_digest d 0 0 0 0 34 [some (.ref M), some (.long (J (dg2 Ss i (31 * (31 * 866 + pn.1.length) + Ss.length)))), none, some (.int (I (i : Int))), x4] [] h Q := by
    intro m
    induction m with
    | zero =>
      intro i x4 hi
      obtain rfl : i = Ss.length := by omega
      refine B_Model_digest_34 ?_
      simp only [wp_cons, wp_nil, List.getElem?_cons_zero, List.getElem?_cons_succ, List.set_cons_zero, List.set_cons_succ, s_iload_n3, ldI_s, s_aload_n0, ldA_r, ldA_n, s_getfield, pR_s, ob_s, gt_s, s_iconst, s_iaload, iR_s, ia_s, s_if_icmp_ge, p2_s, true_and, and_true, Nat.le_refl, true_implies, forall_const, not_false_eq_true, false_implies, not_true_eq_false, reduceCtorEq, tl_s, tl_n, rf_s, List.cons_append, List.nil_append, true_or, or_true, hm.c, hm.g1, a0, k0, ex_ie]
      refine b_le (by omega) (by omega) (fun cc => ?_) (fun cc => absurd cc (by omega))
      refine B_Model_digest_115 ?_
      simp only [wp_cons, wp_nil, List.getElem?_cons_zero, List.getElem?_cons_succ, List.set_cons_zero, List.set_cons_succ, s_iconst, s_istore_n3, p1_s, s1_0, s1_s, kx_i, kx_r, kx_n, kx_l, kx_0, true_and, and_true, Nat.le_refl, true_implies, forall_const, not_false_eq_true, false_implies, not_true_eq_false, reduceCtorEq, tl_s, tl_n, rf_s, List.cons_append, List.nil_append, true_or, or_true, hm.c, hm.g1, a0, k0, ex_ie]
      exact second Ss.length 0 _ (by omega)
    | succ m ih =>
      intro i x4 hi
      have w1 := wD.2 i (by omega)
      have hn2 := w1.2.1
      have hi2 : i < (Ss, pn).1.length := by show i < Ss.length; omega
      have in2 : ∀ (n k : Nat), k + n = (sg Ss i).1.length → G Model_digest d 0 0 0 0 78 [some (.ref M), some (.long (J (hsh (pg (sg Ss i).1) k (hsh (figS (sg Ss i)) 10 (dg2 Ss i (31 * (31 * 866 + pn.1.length) + Ss.length)))))), none, some (.int (I (i : Int))), some (.int (I (k : Int)))] [] h Q := by
        intro n
        induction n with
        | zero =>
          intro k hk
          obtain rfl : k = (sg Ss i).1.length := by omega
          refine B_Model_digest_78 ?_
          simp only [wp_cons, wp_nil, List.getElem?_cons_zero, List.getElem?_cons_succ, List.set_cons_zero, List.set_cons_succ, s_iload, ldI_s, s_aload_n0, ldA_r, ldA_n, s_iload_n3, s_invokevirtual, rc_s, ob_s, List.drop_succ_cons, List.drop_zero, List.take_succ_cons, List.take_zero, List.reverse_cons, List.reverse_nil, List.nil_append, List.cons_append, List.length_cons, List.length_nil, d1, Int.reduceToNat, Nat.reduceAdd, Nat.reduceLeDiff, true_and, and_true, Nat.le_refl, true_implies, forall_const, not_false_eq_true, false_implies, not_true_eq_false, reduceCtorEq, tl_s, tl_n, rf_s, true_or, or_true, hm.c]
          refine Mdl_len_c (by omega) hm hr wl hi2 ?_
          refine B_Model_digest_85 ?_
          simp only [wp_cons, wp_nil, List.getElem?_cons_zero, List.getElem?_cons_succ, List.set_cons_zero, List.set_cons_succ, s_if_icmp_ge, p2_s, true_and, and_true, Nat.le_refl, true_implies, forall_const, not_false_eq_true, false_implies, not_true_eq_false, reduceCtorEq, tl_s, tl_n, rf_s, List.cons_append, List.nil_append, true_or, or_true, hm.c]
          refine b_le (by omega) (by omega) (fun cc => ?_) (fun cc => absurd cc (by omega))
          refine B_Model_digest_109 ?_
          simp only [wp_cons, wp_nil, List.getElem?_cons_zero, List.getElem?_cons_succ, List.set_cons_zero, List.set_cons_succ, s_iinc, ldI_s, s1_0, s1_s, kx_i, kx_r, kx_n, kx_l, kx_0, I_add, s_goto, true_and, and_true, Nat.le_refl, true_implies, forall_const, not_false_eq_true, false_implies, not_true_eq_false, reduceCtorEq, tl_s, tl_n, rf_s, List.cons_append, List.nil_append, true_or, or_true, hm.c]
          exact ih (i + 1) _ (by omega)
        | succ n ihn =>
          intro k hk
          have b := w1.2.2.1 k (by omega)
          refine B_Model_digest_78 ?_
          simp only [wp_cons, wp_nil, List.getElem?_cons_zero, List.getElem?_cons_succ, List.set_cons_zero, List.set_cons_succ, s_iload, ldI_s, s_aload_n0, ldA_r, ldA_n, s_iload_n3, s_invokevirtual, rc_s, ob_s, List.drop_succ_cons, List.drop_zero, List.take_succ_cons, List.take_zero, List.reverse_cons, List.reverse_nil, List.nil_append, List.cons_append, List.length_cons, List.length_nil, d1, Int.reduceToNat, Nat.reduceAdd, Nat.reduceLeDiff, true_and, and_true, Nat.le_refl, true_implies, forall_const, not_false_eq_true, false_implies, not_true_eq_false, reduceCtorEq, tl_s, tl_n, rf_s, true_or, or_true, hm.c, I_J (show i32 (pg (sg Ss i).1 k) by omega)]
          refine Mdl_len_c (by omega) hm hr wl hi2 ?_
          refine B_Model_digest_85 ?_
          simp only [wp_cons, wp_nil, List.getElem?_cons_zero, List.getElem?_cons_succ, List.set_cons_zero, List.set_cons_succ, s_if_icmp_ge, p2_s, true_and, and_true, Nat.le_refl, true_implies, forall_const, not_false_eq_true, false_implies, not_true_eq_false, reduceCtorEq, tl_s, tl_n, rf_s, List.cons_append, List.nil_append, true_or, or_true, hm.c, I_J (show i32 (pg (sg Ss i).1 k) by omega)]
          refine b_le (by omega) (by omega) (fun cc => absurd cc (by omega)) (fun cc => ?_)
          refine B_Model_digest_88 ?_
          simp only [wp_cons, wp_nil, List.getElem?_cons_zero, List.getElem?_cons_succ, List.set_cons_zero, List.set_cons_succ, s_ldc2_w, s_lload_n1, ldL_s, s_lmul, l2_s, J_mul, s_aload_n0, ldA_r, ldA_n, s_iload_n3, ldI_s, s_iload, s_invokevirtual, rc_s, ob_s, List.drop_succ_cons, List.drop_zero, List.take_succ_cons, List.take_zero, List.reverse_cons, List.reverse_nil, List.nil_append, List.cons_append, List.length_cons, List.length_nil, d1, Int.reduceToNat, Nat.reduceAdd, Nat.reduceLeDiff, true_and, and_true, Nat.le_refl, true_implies, forall_const, not_false_eq_true, false_implies, not_true_eq_false, reduceCtorEq, tl_s, tl_n, rf_s, true_or, or_true, hm.c, I_J (show i32 (pg (sg Ss i).1 k) by omega)]
          refine Mdl_pAt_c (by omega) hm hr wl hi2 (show k < (sg Ss i).1.length by omega) ?_
          refine B_Model_digest_100 ?_
          simp only [wp_cons, wp_nil, List.getElem?_cons_zero, List.getElem?_cons_succ, List.set_cons_zero, List.set_cons_succ, s_i2l, p1_s, s_ladd, l2_s, J_add, s_lstore_n1, l1_s, s2_0, s2_s, kx_i, kx_r, kx_n, kx_l, kx_0, s_iinc, ldI_s, s1_0, s1_s, I_add, s_goto, true_and, and_true, Nat.le_refl, true_implies, forall_const, not_false_eq_true, false_implies, not_true_eq_false, reduceCtorEq, tl_s, tl_n, rf_s, List.cons_append, List.nil_append, true_or, or_true, hm.c, I_J (show i32 (pg (sg Ss i).1 k) by omega)]
          exact ihn (k + 1) (by omega)
      have in1 : ∀ (n k : Nat), k + n = 10 → G Model_digest d 0 0 0 0 47 [some (.ref M), some (.long (J (hsh (figS (sg Ss i)) k (dg2 Ss i (31 * (31 * 866 + pn.1.length) + Ss.length))))), none, some (.int (I (i : Int))), some (.int (I (k : Int)))] [] h Q := by
        intro n
        induction n with
        | zero =>
          intro k hk
          obtain rfl : k = 10 := by omega
          refine B_Model_digest_47 ?_
          simp only [wp_cons, wp_nil, List.getElem?_cons_zero, List.getElem?_cons_succ, List.set_cons_zero, List.set_cons_succ, s_iload, ldI_s, s_bipush, s_if_icmp_gt, p2_s, true_and, and_true, Nat.le_refl, true_implies, forall_const, not_false_eq_true, false_implies, not_true_eq_false, reduceCtorEq, tl_s, tl_n, rf_s, List.cons_append, List.nil_append, true_or, or_true, hm.c]
          refine b_lt (by omega) (by omega) (fun cc => ?_) (fun cc => absurd cc (by omega))
          refine B_Model_digest_75 ?_
          simp only [wp_cons, wp_nil, List.getElem?_cons_zero, List.getElem?_cons_succ, List.set_cons_zero, List.set_cons_succ, s_iconst, s_istore, p1_s, s1_0, s1_s, kx_i, kx_r, kx_n, kx_l, kx_0, true_and, and_true, Nat.le_refl, true_implies, forall_const, not_false_eq_true, false_implies, not_true_eq_false, reduceCtorEq, tl_s, tl_n, rf_s, List.cons_append, List.nil_append, true_or, or_true, hm.c]
          exact in2 (sg Ss i).1.length 0 (by omega)
        | succ n ihn =>
          intro k hk
          refine B_Model_digest_47 ?_
          simp only [wp_cons, wp_nil, List.getElem?_cons_zero, List.getElem?_cons_succ, List.set_cons_zero, List.set_cons_succ, s_iload, ldI_s, s_bipush, s_if_icmp_gt, p2_s, true_and, and_true, Nat.le_refl, true_implies, forall_const, not_false_eq_true, false_implies, not_true_eq_false, reduceCtorEq, tl_s, tl_n, rf_s, List.cons_append, List.nil_append, true_or, or_true, hm.c, I_J (figS_bd w1 k)]
          refine b_lt (by omega) (by omega) (fun cc => absurd cc (by omega)) (fun cc => ?_)
          refine B_Model_digest_54 ?_
          simp only [wp_cons, wp_nil, List.getElem?_cons_zero, List.getElem?_cons_succ, List.set_cons_zero, List.set_cons_succ, s_ldc2_w, s_lload_n1, ldL_s, s_lmul, l2_s, J_mul, s_aload_n0, ldA_r, ldA_n, s_iload_n3, ldI_s, s_iload, s_invokevirtual, rc_s, ob_s, List.drop_succ_cons, List.drop_zero, List.take_succ_cons, List.take_zero, List.reverse_cons, List.reverse_nil, List.nil_append, List.cons_append, List.length_cons, List.length_nil, d1, Int.reduceToNat, Nat.reduceAdd, Nat.reduceLeDiff, true_and, and_true, Nat.le_refl, true_implies, forall_const, not_false_eq_true, false_implies, not_true_eq_false, reduceCtorEq, tl_s, tl_n, rf_s, true_or, or_true, hm.c, I_J (figS_bd w1 k)]
          refine Mdl_ofS_c (by omega) hm hr wl hi2 (by omega) ?_
          refine B_Model_digest_66 ?_
          simp only [wp_cons, wp_nil, List.getElem?_cons_zero, List.getElem?_cons_succ, List.set_cons_zero, List.set_cons_succ, s_i2l, p1_s, s_ladd, l2_s, J_add, s_lstore_n1, l1_s, s2_0, s2_s, kx_i, kx_r, kx_n, kx_l, kx_0, s_iinc, ldI_s, s1_0, s1_s, I_add, s_goto, true_and, and_true, Nat.le_refl, true_implies, forall_const, not_false_eq_true, false_implies, not_true_eq_false, reduceCtorEq, tl_s, tl_n, rf_s, List.cons_append, List.nil_append, true_or, or_true, hm.c, I_J (figS_bd w1 k)]
          exact ihn (k + 1) (by omega)
      refine B_Model_digest_34 ?_
      simp only [wp_cons, wp_nil, List.getElem?_cons_zero, List.getElem?_cons_succ, List.set_cons_zero, List.set_cons_succ, s_iload_n3, ldI_s, s_aload_n0, ldA_r, ldA_n, s_getfield, pR_s, ob_s, gt_s, s_iconst, s_iaload, iR_s, ia_s, s_if_icmp_ge, p2_s, true_and, and_true, Nat.le_refl, true_implies, forall_const, not_false_eq_true, false_implies, not_true_eq_false, reduceCtorEq, tl_s, tl_n, rf_s, List.cons_append, List.nil_append, true_or, or_true, hm.c, hm.g1, a0, k0, ex_ie]
      refine b_le (by omega) (by omega) (fun cc => absurd cc (by omega)) (fun cc => ?_)
      refine B_Model_digest_44 ?_
      simp only [wp_cons, wp_nil, List.getElem?_cons_zero, List.getElem?_cons_succ, List.set_cons_zero, List.set_cons_succ, s_iconst, s_istore, p1_s, s1_0, s1_s, kx_i, kx_r, kx_n, kx_l, kx_0, true_and, and_true, Nat.le_refl, true_implies, forall_const, not_false_eq_true, false_implies, not_true_eq_false, reduceCtorEq, tl_s, tl_n, rf_s, List.cons_append, List.nil_append, true_or, or_true, hm.c, hm.g1, a0, k0, ex_ie]
      exact in1 10 0 (by omega)
  refine Call.intro (by rfl) (Nat.le_of_ble_eq_true rfl) ?_
  refine G.eqL (L := [some (.ref _), none, none, none, none]) rfl ?_
  refine B_Model_digest_0 ?_
  simp only [wp_cons, wp_nil, List.getElem?_cons_zero, List.getElem?_cons_succ, List.set_cons_zero, List.set_cons_succ, s_ldc2_w, s_lstore_n1, l1_s, s2_0, s2_s, kx_i, kx_r, kx_n, kx_l, kx_0, s_lload_n1, ldL_s, s_lmul, l2_s, J_mul, s_aload_n0, ldA_r, ldA_n, s_getfield, pR_s, ob_s, gt_s, s_iconst, s_iaload, iR_s, ia_s, s_i2l, p1_s, s_ladd, J_add, s_istore_n3, s1_0, s1_s, true_and, and_true, Nat.le_refl, true_implies, forall_const, not_false_eq_true, false_implies, not_true_eq_false, reduceCtorEq, tl_s, tl_n, rf_s, List.cons_append, List.nil_append, true_or, or_true, hm.c, hm.g1, a0, a1, k0, k1, ex_ie, I_J (x := (Ss.length : Int)) (by omega), I_J (x := (pn.1.length : Int)) (by omega)]
  exact first Ss.length 0 _ (by omega)
