/-! ===== the reference: rows of points on their way, drawings in numbers ===== -/
/-! blocks of Model_lays -/
theorem ml_Model_lays : (g_m Model_lays).2.2.1 = 4 := rfl
theorem rt_Model_lays : (g_m Model_lays).2.2.2.1 = none := rfl
theorem B_Model_lays_0 {d mc ms cs ss : Nat} {L : List (Option Value)} {st : List Value} {h : g_H} {Q : g_Po} (hw : g_wp Model_lays d mc ms Q 10 [(0, 1, 0, 0, 0, 0, .aload_n 0), (1, 1, 0, 0, 0, 0, .iload_n 1), (2, 1, 0, 0, 0, 0, .iconst 0), (3, 1, 0, 0, 0, 0, .aload_n 0), (4, 3, 7, 12, 3157, 0, .getfield 70), (7, 3, 118, 7, 4008, 3, .invokevirtual 73)] cs ss L st h) : G Model_lays d mc ms cs ss 0 L st h Q := G.run (by decide +kernel) hw
theorem B_Model_lays_10 {d mc ms cs ss : Nat} {L : List (Option Value)} {st : List Value} {h : g_H} {Q : g_Po} (hw : g_wp Model_lays d mc ms Q 17 [(10, 1, 0, 0, 0, 0, .aload_n 0), (11, 1, 0, 0, 0, 0, .iload_n 1), (12, 1, 0, 0, 0, 1, .iconst 1), (13, 1, 0, 0, 0, 0, .iload_n 2), (14, 3, 21, 0, 0, 0, .ifCond .eq 7)] cs ss L st h) : G Model_lays d mc ms cs ss 10 L st h Q := G.run (by decide +kernel) hw
theorem B_Model_lays_17 {d mc ms cs ss : Nat} {L : List (Option Value)} {st : List Value} {h : g_H} {Q : g_Po} (hw : g_wp Model_lays d mc ms Q 21 [(17, 1, 0, 0, 0, 1, .iconst 1), (18, 3, 22, 0, 0, 0, .goto 4)] cs ss L st h) : G Model_lays d mc ms cs ss 17 L st h Q := G.run (by decide +kernel) hw
theorem B_Model_lays_21 {d mc ms cs ss : Nat} {L : List (Option Value)} {st : List Value} {h : g_H} {Q : g_Po} (hw : g_wp Model_lays d mc ms Q 22 [(21, 1, 0, 0, 0, 0, .iconst 0)] cs ss L st h) : G Model_lays d mc ms cs ss 21 L st h Q := G.run (by decide +kernel) hw
theorem B_Model_lays_22 {d mc ms cs ss : Nat} {L : List (Option Value)} {st : List Value} {h : g_H} {Q : g_Po} (hw : g_wp Model_lays d mc ms Q 25 [(22, 3, 118, 7, 4008, 3, .invokevirtual 73)] cs ss L st h) : G Model_lays d mc ms cs ss 22 L st h Q := G.run (by decide +kernel) hw
theorem B_Model_lays_25 {d mc ms cs ss : Nat} {L : List (Option Value)} {st : List Value} {h : g_H} {Q : g_Po} (hw : g_wp Model_lays d mc ms Q 27 [(25, 1, 0, 0, 0, 0, .iconst 0), (26, 1, 0, 0, 0, 0, .istore_n 3)] cs ss L st h) : G Model_lays d mc ms cs ss 25 L st h Q := G.run (by decide +kernel) hw
theorem B_Model_lays_27 {d mc ms cs ss : Nat} {L : List (Option Value)} {st : List Value} {h : g_H} {Q : g_Po} (hw : g_wp Model_lays d mc ms Q 33 [(27, 1, 0, 0, 0, 0, .iload_n 3), (28, 2, 0, 0, 0, 30, .bipush 30), (30, 3, 65, 0, 0, 0, .if_icmp .ge 35)] cs ss L st h) : G Model_lays d mc ms cs ss 27 L st h Q := G.run (by decide +kernel) hw
theorem B_Model_lays_33 {d mc ms cs ss : Nat} {L : List (Option Value)} {st : List Value} {h : g_H} {Q : g_Po} (hw : g_wp Model_lays d mc ms Q 46 [(33, 1, 0, 0, 0, 0, .aload_n 0), (34, 1, 0, 0, 0, 0, .iload_n 1), (35, 1, 0, 0, 0, 2, .iconst 2), (36, 1, 0, 0, 0, 0, .iload_n 3), (37, 1, 0, 0, 0, 0, .iadd), (38, 1, 0, 0, 0, 0, .iload_n 3), (39, 1, 0, 0, 0, 0, .aload_n 0), (40, 3, 7, 12, 3157, 0, .getfield 70), (43, 3, 55, 0, 0, 0, .if_icmp .ge 12)] cs ss L st h) : G Model_lays d mc ms cs ss 33 L st h Q := G.run (by decide +kernel) hw
theorem B_Model_lays_46 {d mc ms cs ss : Nat} {L : List (Option Value)} {st : List Value} {h : g_H} {Q : g_Po} (hw : g_wp Model_lays d mc ms Q 55 [(46, 1, 0, 0, 0, 0, .aload_n 0), (47, 3, 7, 11, 3156, 2, .getfield 34), (50, 1, 0, 0, 0, 0, .iload_n 3), (51, 1, 0, 0, 0, 0, .iaload), (52, 3, 56, 0, 0, 0, .goto 4)] cs ss L st h) : G Model_lays d mc ms cs ss 46 L st h Q := G.run (by decide +kernel) hw
theorem B_Model_lays_55 {d mc ms cs ss : Nat} {L : List (Option Value)} {st : List Value} {h : g_H} {Q : g_Po} (hw : g_wp Model_lays d mc ms Q 56 [(55, 1, 0, 0, 0, 0, .iconst 0)] cs ss L st h) : G Model_lays d mc ms cs ss 55 L st h Q := G.run (by decide +kernel) hw
theorem B_Model_lays_56 {d mc ms cs ss : Nat} {L : List (Option Value)} {st : List Value} {h : g_H} {Q : g_Po} (hw : g_wp Model_lays d mc ms Q 59 [(56, 3, 118, 7, 4008, 3, .invokevirtual 73)] cs ss L st h) : G Model_lays d mc ms cs ss 56 L st h Q := G.run (by decide +kernel) hw
theorem B_Model_lays_59 {d mc ms cs ss : Nat} {L : List (Option Value)} {st : List Value} {h : g_H} {Q : g_Po} (hw : g_wp Model_lays d mc ms Q 65 [(59, 3, 0, 0, 0, 1, .iinc 3 1), (62, 3, 27, 0, 0, 0, .goto (-35))] cs ss L st h) : G Model_lays d mc ms cs ss 59 L st h Q := G.run (by decide +kernel) hw
theorem B_Model_lays_65 {d mc ms cs ss : Nat} {L : List (Option Value)} {st : List Value} {h : g_H} {Q : g_Po} (hw : g_wp Model_lays d mc ms Q 66 [(65, 1, 0, 0, 0, 0, .return_)] cs ss L st h) : G Model_lays d mc ms cs ss 65 L st h Q := G.run (by decide +kernel) hw
/-! blocks of Model_takes -/
theorem ml_Model_takes : (g_m Model_takes).2.2.1 = 6 := rfl
theorem rt_Model_takes : (g_m Model_takes).2.2.2.1 = none := rfl
theorem B_Model_takes_0 {d mc ms cs ss : Nat} {L : List (Option Value)} {st : List Value} {h : g_H} {Q : g_Po} (hw : g_wp Model_takes d mc ms Q 3 [(0, 1, 0, 0, 0, 0, .iconst 0), (1, 2, 0, 0, 0, 0, .istore 5)] cs ss L st h) : G Model_takes d mc ms cs ss 0 L st h Q := G.run (by decide +kernel) hw
theorem B_Model_takes_3 {d mc ms cs ss : Nat} {L : List (Option Value)} {st : List Value} {h : g_H} {Q : g_Po} (hw : g_wp Model_takes d mc ms Q 10 [(3, 2, 0, 0, 0, 0, .iload 5), (5, 2, 0, 0, 0, 0, .iload 4), (7, 3, 48, 0, 0, 0, .if_icmp .ge 41)] cs ss L st h) : G Model_takes d mc ms cs ss 3 L st h Q := G.run (by decide +kernel) hw
theorem B_Model_takes_10 {d mc ms cs ss : Nat} {L : List (Option Value)} {st : List Value} {h : g_H} {Q : g_Po} (hw : g_wp Model_takes d mc ms Q 31 [(10, 1, 0, 0, 0, 0, .aload_n 0), (11, 3, 7, 11, 3156, 2, .getfield 34), (14, 1, 0, 0, 0, 0, .aload_n 0), (15, 3, 7, 12, 3157, 0, .getfield 70), (18, 1, 0, 0, 0, 0, .aload_n 0), (19, 1, 0, 0, 0, 0, .iload_n 1), (20, 1, 0, 0, 0, 2, .iconst 2), (21, 1, 0, 0, 0, 0, .iload_n 2), (22, 1, 0, 0, 0, 0, .iadd), (23, 1, 0, 0, 0, 0, .iload_n 3), (24, 2, 0, 0, 0, 0, .iload 5), (26, 1, 0, 0, 0, 0, .imul), (27, 1, 0, 0, 0, 0, .iadd), (28, 3, 117, 7, 4039, 2, .invokevirtual 53)] cs ss L st h) : G Model_takes d mc ms cs ss 10 L st h Q := G.run (by decide +kernel) hw
theorem B_Model_takes_31 {d mc ms cs ss : Nat} {L : List (Option Value)} {st : List Value} {h : g_H} {Q : g_Po} (hw : g_wp Model_takes d mc ms Q 48 [(31, 1, 0, 0, 0, 0, .iastore), (32, 1, 0, 0, 0, 0, .aload_n 0), (33, 1, 0, 0, 0, 0, .dup), (34, 3, 7, 12, 3157, 0, .getfield 70), (37, 1, 0, 0, 0, 1, .iconst 1), (38, 1, 0, 0, 0, 0, .iadd), (39, 3, 7, 12, 3157, 0, .putfield 70), (42, 3, 0, 0, 0, 1, .iinc 5 1), (45, 3, 3, 0, 0, 0, .goto (-42))] cs ss L st h) : G Model_takes d mc ms cs ss 31 L st h Q := G.run (by decide +kernel) hw
theorem B_Model_takes_48 {d mc ms cs ss : Nat} {L : List (Option Value)} {st : List Value} {h : g_H} {Q : g_Po} (hw : g_wp Model_takes d mc ms Q 49 [(48, 1, 0, 0, 0, 0, .return_)] cs ss L st h) : G Model_takes d mc ms cs ss 48 L st h Q := G.run (by decide +kernel) hw
/-! blocks of Model_takesOut -/
theorem ml_Model_takesOut : (g_m Model_takesOut).2.2.1 = 3 := rfl
theorem rt_Model_takesOut : (g_m Model_takesOut).2.2.2.1 = none := rfl
theorem B_Model_takesOut_0 {d mc ms cs ss : Nat} {L : List (Option Value)} {st : List Value} {h : g_H} {Q : g_Po} (hw : g_wp Model_takesOut d mc ms Q 18 [(0, 1, 0, 0, 0, 0, .aload_n 0), (1, 3, 7, 0, 3145, 2, .getfield 7), (4, 1, 0, 0, 0, 0, .iconst 0), (5, 1, 0, 0, 0, 0, .dup2), (6, 1, 0, 0, 0, 0, .iaload), (7, 1, 0, 0, 0, 1, .iconst 1), (8, 1, 0, 0, 0, 0, .isub), (9, 1, 0, 0, 0, 0, .iastore), (10, 2, 0, 0, 0, 32, .bipush 32), (12, 2, 0, 0, 0, 32, .bipush 32), (14, 1, 0, 0, 0, 0, .iload_n 1), (15, 1, 0, 0, 0, 0, .imul), (16, 1, 0, 0, 0, 0, .iadd), (17, 1, 0, 0, 0, 0, .istore_n 2)] cs ss L st h) : G Model_takesOut d mc ms cs ss 0 L st h Q := G.run (by decide +kernel) hw
theorem B_Model_takesOut_18 {d mc ms cs ss : Nat} {L : List (Option Value)} {st : List Value} {h : g_H} {Q : g_Po} (hw : g_wp Model_takesOut d mc ms Q 34 [(18, 1, 0, 0, 0, 0, .iload_n 2), (19, 2, 0, 0, 0, 32, .bipush 32), (21, 2, 0, 0, 0, 32, .bipush 32), (23, 1, 0, 0, 0, 0, .aload_n 0), (24, 3, 7, 0, 3145, 2, .getfield 7), (27, 1, 0, 0, 0, 0, .iconst 0), (28, 1, 0, 0, 0, 0, .iaload), (29, 1, 0, 0, 0, 0, .imul), (30, 1, 0, 0, 0, 0, .iadd), (31, 3, 55, 0, 0, 0, .if_icmp .ge 24)] cs ss L st h) : G Model_takesOut d mc ms cs ss 18 L st h Q := G.run (by decide +kernel) hw
theorem B_Model_takesOut_34 {d mc ms cs ss : Nat} {L : List (Option Value)} {st : List Value} {h : g_H} {Q : g_Po} (hw : g_wp Model_takesOut d mc ms Q 55 [(34, 1, 0, 0, 0, 0, .aload_n 0), (35, 3, 7, 0, 3145, 2, .getfield 7), (38, 1, 0, 0, 0, 0, .iload_n 2), (39, 1, 0, 0, 0, 0, .aload_n 0), (40, 3, 7, 0, 3145, 2, .getfield 7), (43, 1, 0, 0, 0, 0, .iload_n 2), (44, 2, 0, 0, 0, 32, .bipush 32), (46, 1, 0, 0, 0, 0, .iadd), (47, 1, 0, 0, 0, 0, .iaload), (48, 1, 0, 0, 0, 0, .iastore), (49, 3, 0, 0, 0, 1, .iinc 2 1), (52, 3, 18, 0, 0, 0, .goto (-34))] cs ss L st h) : G Model_takesOut d mc ms cs ss 34 L st h Q := G.run (by decide +kernel) hw
theorem B_Model_takesOut_55 {d mc ms cs ss : Nat} {L : List (Option Value)} {st : List Value} {h : g_H} {Q : g_Po} (hw : g_wp Model_takesOut d mc ms Q 68 [(55, 2, 0, 0, 0, 32, .bipush 32), (57, 2, 0, 0, 0, 32, .bipush 32), (59, 1, 0, 0, 0, 0, .aload_n 0), (60, 3, 7, 0, 3145, 2, .getfield 7), (63, 1, 0, 0, 0, 0, .iconst 0), (64, 1, 0, 0, 0, 0, .iaload), (65, 1, 0, 0, 0, 0, .imul), (66, 1, 0, 0, 0, 0, .iadd), (67, 1, 0, 0, 0, 0, .istore_n 2)] cs ss L st h) : G Model_takesOut d mc ms cs ss 55 L st h Q := G.run (by decide +kernel) hw
theorem B_Model_takesOut_68 {d mc ms cs ss : Nat} {L : List (Option Value)} {st : List Value} {h : g_H} {Q : g_Po} (hw : g_wp Model_takesOut d mc ms Q 75 [(68, 1, 0, 0, 0, 0, .iload_n 2), (69, 3, 0, 0, 0, 352, .sipush 352), (72, 3, 88, 0, 0, 0, .if_icmp .ge 16)] cs ss L st h) : G Model_takesOut d mc ms cs ss 68 L st h Q := G.run (by decide +kernel) hw
theorem B_Model_takesOut_75 {d mc ms cs ss : Nat} {L : List (Option Value)} {st : List Value} {h : g_H} {Q : g_Po} (hw : g_wp Model_takesOut d mc ms Q 88 [(75, 1, 0, 0, 0, 0, .aload_n 0), (76, 3, 7, 0, 3145, 2, .getfield 7), (79, 1, 0, 0, 0, 0, .iload_n 2), (80, 1, 0, 0, 0, 0, .iconst 0), (81, 1, 0, 0, 0, 0, .iastore), (82, 3, 0, 0, 0, 1, .iinc 2 1), (85, 3, 68, 0, 0, 0, .goto (-17))] cs ss L st h) : G Model_takesOut d mc ms cs ss 75 L st h Q := G.run (by decide +kernel) hw
theorem B_Model_takesOut_88 {d mc ms cs ss : Nat} {L : List (Option Value)} {st : List Value} {h : g_H} {Q : g_Po} (hw : g_wp Model_takesOut d mc ms Q 89 [(88, 1, 0, 0, 0, 0, .return_)] cs ss L st h) : G Model_takesOut d mc ms cs ss 88 L st h Q := G.run (by decide +kernel) hw
/-! blocks of Model_adds -/
theorem ml_Model_adds : (g_m Model_adds).2.2.1 = 3 := rfl
theorem rt_Model_adds : (g_m Model_adds).2.2.2.1 = (some .int) := rfl
theorem B_Model_adds_0 {d mc ms cs ss : Nat} {L : List (Option Value)} {st : List Value} {h : g_H} {Q : g_Po} (hw : g_wp Model_adds d mc ms Q 23 [(0, 1, 0, 0, 0, 0, .aload_n 0), (1, 3, 7, 0, 3145, 2, .getfield 7), (4, 1, 0, 0, 0, 0, .iconst 0), (5, 1, 0, 0, 0, 0, .iaload), (6, 1, 0, 0, 0, 0, .istore_n 2), (7, 1, 0, 0, 0, 0, .aload_n 0), (8, 3, 7, 0, 3145, 2, .getfield 7), (11, 1, 0, 0, 0, 0, .iconst 0), (12, 1, 0, 0, 0, 0, .dup2), (13, 1, 0, 0, 0, 0, .iaload), (14, 1, 0, 0, 0, 1, .iconst 1), (15, 1, 0, 0, 0, 0, .iadd), (16, 1, 0, 0, 0, 0, .iastore), (17, 1, 0, 0, 0, 0, .aload_n 0), (18, 1, 0, 0, 0, 0, .iload_n 2), (19, 1, 0, 0, 0, 0, .iload_n 1), (20, 3, 127, 7, 4004, 2, .invokevirtual 87)] cs ss L st h) : G Model_adds d mc ms cs ss 0 L st h Q := G.run (by decide +kernel) hw
theorem B_Model_adds_23 {d mc ms cs ss : Nat} {L : List (Option Value)} {st : List Value} {h : g_H} {Q : g_Po} (hw : g_wp Model_adds d mc ms Q 25 [(23, 1, 0, 0, 0, 0, .iload_n 2), (24, 1, 0, 0, 0, 0, .ireturn)] cs ss L st h) : G Model_adds d mc ms cs ss 23 L st h Q := G.run (by decide +kernel) hw
def wfL (Ss : List Stk) : Prop := Ss.length ≤ 10 ∧ ∀ i, i < Ss.length → 1 ≤ (sg Ss i).1.length ∧ (sg Ss i).1.length ≤ 30 ∧ stP (sg Ss i).1
theorem wfD.l {Ss : List Stk} (w : wfD Ss) : wfL Ss := ⟨w.1, fun i hi => ⟨by have := (w.2 i hi).1; omega, (w.2 i hi).2.1, (w.2 i hi).2.2.1⟩⟩
theorem I_remN {k m : Nat} (hk : k < 1000000) (hm : 0 < m ∧ m < 1000000) : I (k : Int) - I (k : Int) / I (m : Int) * I (m : Int) = I ((k % m : Nat) : Int) := by
  rw [I_div (by omega) (by omega), I_mul, I_sub]
  congr 1
  rw [Int.tdiv_eq_ediv_of_nonneg (by omega), ← Int.natCast_ediv, ← Int.natCast_mul]
  have := Nat.div_add_mod k m
  have h2 : k / m * m = m * (k / m) := Nat.mul_comm _ _
  omega
theorem mod_pr {l : List Int} {k : Nat} (h0 : 0 < l.length) (h : k ≤ l.length) : pg l (k % l.length) = pr l k := by
  unfold pr
  by_cases c : k < l.length
  · rw [if_pos c, Nat.mod_eq_of_lt c]
  · rw [if_neg c, show k = l.length by omega, Nat.mod_self]
theorem pr_lt {l : List Int} {k : Nat} (h : k < l.length) : pr l k = pg l k := by unfold pr; rw [if_pos h]
theorem Mdl_pAr_c {d M s k : Nat} (d2 : 2 ≤ d) {st : Sta} {r : Nat → Int} {A : Nat → Nat → Int} {h : g_H} {Q : g_Po} (hm : mdl h M r A) (hr : stR (A 1) st) (w : wfL st.1) (hs : s < st.1.length) (hk : k ≤ (sg st.1 s).1.length) (hQ : Q (some (.int (I (pr (sg st.1 s).1 k)))) h) : Call Model_pointAt d 0 0 [.ref M, .int (I (s : Int)), .int (I (k : Int))] h Q := by
  have d1 : 1 ≤ d := by omega
  obtain ⟨w1, w2, w3⟩ := w.2 s hs
  have w0 := w.1
  obtain ⟨a, b, c⟩ := hr.2.2.2 s hs
  have hml : k % (sg st.1 s).1.length < (sg st.1 s).1.length := Nat.mod_lt _ (by omega)
  have e1 : (¬ I ((sg st.1 s).1.length : Int) = I 0) = True := by
    rw [I_eq (by omega) (by omega)]
    simp only [eq_iff_iff, iff_true]
    omega
  rw [← mod_pr (by omega) hk, ← c _ hml] at hQ
  refine Call.intro (by rfl) (Nat.le_of_ble_eq_true rfl) ?_
  refine G.eqL (L := [some (.ref _), some (.int _), some (.int _)]) rfl ?_
  refine B_Model_pointAt_0 ?_
  simp only [wp_cons, wp_nil, List.getElem?_cons_zero, List.getElem?_cons_succ, List.set_cons_zero, List.set_cons_succ, s_aload_n0, ldA_r, ldA_n, s_iload_n1, ldI_s, s_iconst, s_iload_n2, s_invokevirtual, rc_s, ob_s, List.drop_succ_cons, List.drop_zero, List.take_succ_cons, List.take_zero, List.reverse_cons, List.reverse_nil, List.nil_append, List.cons_append, List.length_cons, List.length_nil, d1, Int.reduceToNat, Nat.reduceAdd, Nat.reduceLeDiff, true_and, and_true, Nat.le_refl, true_implies, forall_const, not_false_eq_true, false_implies, not_true_eq_false, reduceCtorEq, tl_s, tl_n, rf_s, true_or, or_true, hm.c]
  refine Mdl_many_c (by omega) hm (by omega) ?_
  rw [a]
  refine B_Model_pointAt_9 ?_
  simp only [wp_cons, wp_nil, List.getElem?_cons_zero, List.getElem?_cons_succ, List.set_cons_zero, List.set_cons_succ, s_irem, p2_s, ne_k1000, ne_k2, s_iadd, I_add, s_invokevirtual, rc_s, ob_s, List.drop_succ_cons, List.drop_zero, List.take_succ_cons, List.take_zero, List.reverse_cons, List.reverse_nil, List.nil_append, List.cons_append, List.length_cons, List.length_nil, d1, Int.reduceToNat, Nat.reduceAdd, Nat.reduceLeDiff, true_and, and_true, Nat.le_refl, true_implies, forall_const, not_false_eq_true, false_implies, not_true_eq_false, reduceCtorEq, tl_s, tl_n, rf_s, true_or, or_true, hm.c, e1, I_remN (k := k) (m := (sg st.1 s).1.length) (by omega) (by omega)]
  refine Mdl_part_c (j := 34 + 32 * s + k % (sg st.1 s).1.length) hm (by omega) (by omega) ?_
  refine B_Model_pointAt_14 ?_
  simp only [wp_cons, wp_nil, List.getElem?_cons_zero, List.getElem?_cons_succ, List.set_cons_zero, List.set_cons_succ, s_ireturn, p1_s, rI_i, rI_z, rI_c, z_01, z_11, rt_Model_pointAt, true_and, and_true, Nat.le_refl, true_implies, forall_const, not_false_eq_true, false_implies, not_true_eq_false, reduceCtorEq, tl_s, tl_n, rf_s, List.cons_append, List.nil_append, true_or, or_true, hm.c]
  exact hQ
theorem Mdl_pAt_c {d M s k : Nat} (d2 : 2 ≤ d) {st : Sta} {r : Nat → Int} {A : Nat → Nat → Int} {h : g_H} {Q : g_Po} (hm : mdl h M r A) (hr : stR (A 1) st) (w : wfL st.1) (hs : s < st.1.length) (hk : k < (sg st.1 s).1.length) (hQ : Q (some (.int (I (pg (sg st.1 s).1 k)))) h) : Call Model_pointAt d 0 0 [.ref M, .int (I (s : Int)), .int (I (k : Int))] h Q :=
  Mdl_pAr_c d2 hm hr w hs (by omega) (by rw [pr_lt hk]; exact hQ)
theorem Mdl_len_c {d M s : Nat} (d1 : 1 ≤ d) {st : Sta} {r : Nat → Int} {A : Nat → Nat → Int} {h : g_H} {Q : g_Po} (hm : mdl h M r A) (hr : stR (A 1) st) (w : wfL st.1) (hs : s < st.1.length) (hQ : Q (some (.int (I ((sg st.1 s).1.length : Int)))) h) : Call Model_many d 0 0 [.ref M, .int (I (s : Int))] h Q := by
  have w0 := w.1
  refine Mdl_many_c d1 hm (by omega) ?_
  rw [(hr.2.2.2 s hs).1]
  exact hQ
theorem Mdl_clo_c {d M s : Nat} (d1 : 1 ≤ d) {st : Sta} {r : Nat → Int} {A : Nat → Nat → Int} {h : g_H} {Q : g_Po} (hm : mdl h M r A) (hr : stR (A 1) st) (w : wfL st.1) (hs : s < st.1.length) (hQ : Q (some (.int (I (sz (sg st.1 s).2)))) h) : Call Model_isClosed d 0 0 [.ref M, .int (I (s : Int))] h Q := by
  have w0 := w.1
  refine Mdl_isC_c d1 hm (by omega) (hr.2.2.2 s hs).2.1 (fun z => ?_) (fun z => ?_)
  · rw [z] at hQ; exact hQ
  · rw [z] at hQ; exact hQ
theorem Mdl_pcs_c {d M s : Nat} (d2 : 2 ≤ d) {st : Sta} {r : Nat → Int} {A : Nat → Nat → Int} {h : g_H} {Q : g_Po} (hm : mdl h M r A) (hr : stR (A 1) st) (w : wfL st.1) (hs : s < st.1.length) (hQ : Q (some (.int (I (pcs (sg st.1 s) : Int)))) h) : Call Model_pieces d 0 0 [.ref M, .int (I (s : Int))] h Q := by
  have d1 : 1 ≤ d := by omega
  have w1 := (w.2 s hs).1
  unfold pcs at hQ
  refine Call.intro (by rfl) (Nat.le_of_ble_eq_true rfl) ?_
  refine G.eqL (L := [some (.ref _), some (.int _)]) rfl ?_
  refine B_Model_pieces_0 ?_
  simp only [wp_cons, wp_nil, List.getElem?_cons_zero, List.getElem?_cons_succ, List.set_cons_zero, List.set_cons_succ, s_aload_n0, ldA_r, ldA_n, s_iload_n1, ldI_s, s_invokevirtual, rc_s, ob_s, List.drop_succ_cons, List.drop_zero, List.take_succ_cons, List.take_zero, List.reverse_cons, List.reverse_nil, List.nil_append, List.cons_append, List.length_cons, List.length_nil, d1, Int.reduceToNat, Nat.reduceAdd, Nat.reduceLeDiff, true_and, and_true, Nat.le_refl, true_implies, forall_const, not_false_eq_true, false_implies, not_true_eq_false, reduceCtorEq, tl_s, tl_n, rf_s, true_or, or_true, hm.c]
  refine Mdl_clo_c (by omega) hm hr w hs ?_
  cases z : (sg st.1 s).2 with
  | true =>
    rw [if_pos z] at hQ
    rw [show sz true = 1 from rfl]
    refine B_Model_pieces_5 ?_
    simp only [wp_cons, wp_nil, List.getElem?_cons_zero, List.getElem?_cons_succ, List.set_cons_zero, List.set_cons_succ, s_ifCond_eq, p1_s, true_and, and_true, Nat.le_refl, true_implies, forall_const, not_false_eq_true, false_implies, not_true_eq_false, reduceCtorEq, tl_s, tl_n, rf_s, List.cons_append, List.nil_append, true_or, or_true, hm.c]
    refine b_eq (by omega) (by omega) (fun cc => absurd cc (by omega)) (fun cc => ?_)
    refine B_Model_pieces_8 ?_
    simp only [wp_cons, wp_nil, List.getElem?_cons_zero, List.getElem?_cons_succ, List.set_cons_zero, List.set_cons_succ, s_aload_n0, ldA_r, ldA_n, s_iload_n1, ldI_s, s_invokevirtual, rc_s, ob_s, List.drop_succ_cons, List.drop_zero, List.take_succ_cons, List.take_zero, List.reverse_cons, List.reverse_nil, List.nil_append, List.cons_append, List.length_cons, List.length_nil, d1, Int.reduceToNat, Nat.reduceAdd, Nat.reduceLeDiff, true_and, and_true, Nat.le_refl, true_implies, forall_const, not_false_eq_true, false_implies, not_true_eq_false, reduceCtorEq, tl_s, tl_n, rf_s, true_or, or_true, hm.c]
    refine Mdl_len_c (by omega) hm hr w hs ?_
    refine B_Model_pieces_13 ?_
    simp only [wp_cons, wp_nil, List.getElem?_cons_zero, List.getElem?_cons_succ, List.set_cons_zero, List.set_cons_succ, s_goto, true_and, and_true, Nat.le_refl, true_implies, forall_const, not_false_eq_true, false_implies, not_true_eq_false, reduceCtorEq, tl_s, tl_n, rf_s, List.cons_append, List.nil_append, true_or, or_true, hm.c]
    refine B_Model_pieces_23 ?_
    simp only [wp_cons, wp_nil, List.getElem?_cons_zero, List.getElem?_cons_succ, List.set_cons_zero, List.set_cons_succ, s_ireturn, p1_s, rI_i, rI_z, rI_c, z_01, z_11, rt_Model_pieces, true_and, and_true, Nat.le_refl, true_implies, forall_const, not_false_eq_true, false_implies, not_true_eq_false, reduceCtorEq, tl_s, tl_n, rf_s, List.cons_append, List.nil_append, true_or, or_true, hm.c]
    exact hQ
  | false =>
    rw [if_neg (by rw [z]; decide)] at hQ
    rw [show sz false = 0 from rfl]
    refine B_Model_pieces_5 ?_
    simp only [wp_cons, wp_nil, List.getElem?_cons_zero, List.getElem?_cons_succ, List.set_cons_zero, List.set_cons_succ, s_ifCond_eq, p1_s, true_and, and_true, Nat.le_refl, true_implies, forall_const, not_false_eq_true, false_implies, not_true_eq_false, reduceCtorEq, tl_s, tl_n, rf_s, List.cons_append, List.nil_append, true_or, or_true, hm.c]
    refine B_Model_pieces_16 ?_
    simp only [wp_cons, wp_nil, List.getElem?_cons_zero, List.getElem?_cons_succ, List.set_cons_zero, List.set_cons_succ, s_aload_n0, ldA_r, ldA_n, s_iload_n1, ldI_s, s_invokevirtual, rc_s, ob_s, List.drop_succ_cons, List.drop_zero, List.take_succ_cons, List.take_zero, List.reverse_cons, List.reverse_nil, List.nil_append, List.cons_append, List.length_cons, List.length_nil, d1, Int.reduceToNat, Nat.reduceAdd, Nat.reduceLeDiff, true_and, and_true, Nat.le_refl, true_implies, forall_const, not_false_eq_true, false_implies, not_true_eq_false, reduceCtorEq, tl_s, tl_n, rf_s, true_or, or_true, hm.c]
    refine Mdl_len_c (by omega) hm hr w hs ?_
    refine B_Model_pieces_21 ?_
    simp only [wp_cons, wp_nil, List.getElem?_cons_zero, List.getElem?_cons_succ, List.set_cons_zero, List.set_cons_succ, s_iconst, s_isub, p2_s, I_sub, true_and, and_true, Nat.le_refl, true_implies, forall_const, not_false_eq_true, false_implies, not_true_eq_false, reduceCtorEq, tl_s, tl_n, rf_s, List.cons_append, List.nil_append, true_or, or_true, hm.c]
    refine B_Model_pieces_23 ?_
    simp only [wp_cons, wp_nil, List.getElem?_cons_zero, List.getElem?_cons_succ, List.set_cons_zero, List.set_cons_succ, s_ireturn, p1_s, rI_i, rI_z, rI_c, z_01, z_11, rt_Model_pieces, true_and, and_true, Nat.le_refl, true_implies, forall_const, not_false_eq_true, false_implies, not_true_eq_false, reduceCtorEq, tl_s, tl_n, rf_s, List.cons_append, List.nil_append, true_or, or_true, hm.c]
    rw [show ((sg st.1 s).1.length : Int) - 1 = (((sg st.1 s).1.length - 1 : Nat) : Int) by omega]
    exact hQ
/-- the points on their way -/
def pts (r : Nat → Int) (A : Nat → Nat → Int) (L : List Int) : Prop := r 12 = L.length ∧ L.length ≤ 64 ∧ ∀ k, k < L.length → A 9 k = pg L k
def lf (g : Nat → Int) (c : Nat) : List Int := match c with
  | 0 => []
  | c + 1 => lf g c ++ [g c]
theorem lf_len (g : Nat → Int) : ∀ c, (lf g c).length = c := by
  intro c
  induction c with
  | zero => rfl
  | succ c ih => unfold lf; rw [List.length_append, ih]; rfl
theorem lf_pg (g : Nat → Int) : ∀ c k, k < c → pg (lf g c) k = g k := by
  intro c
  induction c with
  | zero => intro k h; omega
  | succ c ih =>
    intro k h
    unfold lf
    by_cases e : k = c
    · rw [pg_app_r _ _ (by rw [lf_len]; omega), lf_len, e, Nat.sub_self]; rfl
    · rw [pg_app_l _ _ (by rw [lf_len]; omega)]; exact ih k (by omega)
theorem lf_eq {g : Nat → Int} {l : List Int} {c : Nat} (hl : l.length = c) (h : ∀ k, k < c → g k = pg l k) : lf g c = l :=
  pg_ext (by rw [lf_len, hl]) (fun i hi => by rw [lf_len] at hi; rw [lf_pg _ _ _ hi, h i hi])
theorem Mdl_takes_c {d M s c : Nat} {first step : Int} (d1 : 1 ≤ d) {L : List Int} {g : Nat → Int} {r : Nat → Int} {A : Nat → Nat → Int} {h0 : g_H} {Q : g_Po} (hm0 : mdl h0 M r A) (hp0 : pts r A L) (hc : L.length + c ≤ 64) (hg : ∀ k, k < c → ∃ j : Nat, 32 + 32 * (s : Int) + (2 + first + step * k) = j ∧ j < 352 ∧ A 1 j = g k)
    (hQ : ∀ h' r' A', chg M (M + 10) h0 h' → mdl h' M r' A' → (∀ n, n ≠ 12 → r' n = r n) → (∀ n, n ≠ 9 → A' n = A n) → pts r' A' (L ++ lf g c) → Q none h') : Call Model_takes d 0 0 [.ref M, .int (I (s : Int)), .int (I first), .int (I step), .int (I (c : Int))] h0 Q := by
  have loop : ∀ (m k : Nat) (h : g_H) (r' : Nat → Int) (A' : Nat → Nat → Int), k + m = c → chg M (M + 10) h0 h → mdl h M r' A' → (∀ n, n ≠ 12 → r' n = r n) → (∀ n, n ≠ 9 → A' n = A n) → pts r' A' (L ++ lf g k) → G Model_takes d 0 0 0 0 3 [some (.ref M), some (.int (I (s : Int))), some (.int (I first)), some (.int (I step)), some (.int (I (c : Int))), some (.int (I (k : Int)))] [] h Q := by
    intro m
    induction m with
    | zero =>
      intro k h r' A' hk hch hm h1 h2 hp
      obtain rfl : k = c := by omega
      refine B_Model_takes_3 ?_
      simp only [wp_cons, wp_nil, List.getElem?_cons_zero, List.getElem?_cons_succ, List.set_cons_zero, List.set_cons_succ, s_iload, ldI_s, s_if_icmp_ge, p2_s, true_and, and_true, Nat.le_refl, true_implies, forall_const, not_false_eq_true, false_implies, not_true_eq_false, reduceCtorEq, tl_s, tl_n, rf_s, List.cons_append, List.nil_append, true_or, or_true, hm.c]
      refine b_le (by omega) (by omega) (fun cc => ?_) (fun cc => absurd cc (by omega))
      refine B_Model_takes_48 ?_
      simp only [wp_cons, wp_nil, List.getElem?_cons_zero, List.getElem?_cons_succ, List.set_cons_zero, List.set_cons_succ, s_return_, rt_Model_takes, true_and, and_true, Nat.le_refl, true_implies, forall_const, not_false_eq_true, false_implies, not_true_eq_false, reduceCtorEq, tl_s, tl_n, rf_s, List.cons_append, List.nil_append, true_or, or_true, hm.c]
      exact hQ h r' A' hch hm h1 h2 hp
    | succ m ih =>
      intro k h r' A' hk hch hm h1 h2 hp
      obtain ⟨j, e1, e2, e3⟩ := hg k (by omega)
      obtain ⟨p1, p2, p3⟩ := hp
      have hl : (L ++ lf g k).length = L.length + k := by rw [List.length_append, lf_len]
      have hm2 := hm.a9 (L ++ lf g k).length (g k)
      refine B_Model_takes_3 ?_
      simp only [wp_cons, wp_nil, List.getElem?_cons_zero, List.getElem?_cons_succ, List.set_cons_zero, List.set_cons_succ, s_iload, ldI_s, s_if_icmp_ge, p2_s, true_and, and_true, Nat.le_refl, true_implies, forall_const, not_false_eq_true, false_implies, not_true_eq_false, reduceCtorEq, tl_s, tl_n, rf_s, List.cons_append, List.nil_append, true_or, or_true, hm.c, p1]
      refine b_le (by omega) (by omega) (fun cc => absurd cc (by omega)) (fun cc => ?_)
      refine B_Model_takes_10 ?_
      simp only [wp_cons, wp_nil, List.getElem?_cons_zero, List.getElem?_cons_succ, List.set_cons_zero, List.set_cons_succ, s_aload_n0, ldA_r, ldA_n, s_getfield, pR_s, ob_s, gt_s, s_iload_n1, ldI_s, s_iconst, s_iload_n2, s_iadd, p2_s, I_add, s_iload_n3, s_iload, s_imul, I_mul, s_invokevirtual, rc_s, List.drop_succ_cons, List.drop_zero, List.take_succ_cons, List.take_zero, List.reverse_cons, List.reverse_nil, List.nil_append, List.cons_append, List.length_cons, List.length_nil, d1, Int.reduceToNat, Nat.reduceAdd, Nat.reduceLeDiff, true_and, and_true, Nat.le_refl, true_implies, forall_const, not_false_eq_true, false_implies, not_true_eq_false, reduceCtorEq, tl_s, tl_n, rf_s, true_or, or_true, hm.c, p1]
      refine Mdl_part_c (j := j) hm e1 e2 ?_
      rw [h2 1 (by omega), e3]
      refine B_Model_takes_31 ?_
      simp only [wp_cons, wp_nil, List.getElem?_cons_zero, List.getElem?_cons_succ, List.set_cons_zero, List.set_cons_succ, s_iastore, iiR_s, ia_s, s_aload_n0, ldA_r, ldA_n, s_dup, p1v_i, p1v_r, s_getfield, pR_s, ob_s, gt_s, s_iconst, s_iadd, p2_s, I_add, s_putfield, pv_i, pv_z, pv_r, pv_f, z_01, z_11, List.length_cons, List.length_nil, s_iinc, ldI_s, s1_0, s1_s, kx_i, kx_r, kx_n, kx_l, kx_0, s_goto, true_and, and_true, Nat.le_refl, true_implies, forall_const, not_false_eq_true, false_implies, not_true_eq_false, reduceCtorEq, tl_s, tl_n, rf_s, List.cons_append, List.nil_append, true_or, or_true, hm.c, hm.g9, p1, hm2.c, upd_ui, ex_ix (i := (L ++ lf g k).length) (n := 64) (by omega), ex_iy (i := (L ++ lf g k).length) (n := 64) (by omega), Nat.reduceLT, Nat.reduceAdd]
      have hm3 := hm2.f12 ((L ++ lf g k).length + 1)
      refine ih (k + 1) _ _ _ (by omega) ((hch.tr (chg.set _ (by omega))).tr (chg.set _ (by omega))) hm3 (fun n hn => by rw [ui_n _ _ hn, h1 n hn]) (fun n hn => by rw [ua_n _ _ _ hn, h2 n hn]) ⟨?_, ?_, fun i hi => ?_⟩
      · rw [ui_s, List.length_append, List.length_append, lf_len, lf_len]; omega
      · rw [List.length_append, lf_len]; omega
      · rw [List.length_append, lf_len] at hi
        rw [ua_s]
        rw [show lf g (k + 1) = lf g k ++ [g k] from rfl, ← List.append_assoc]
        by_cases e : i = (L ++ lf g k).length
        · rw [e, ui_s, pg_app_r _ _ (Nat.le_refl _), Nat.sub_self]; rfl
        · rw [ui_n _ _ e, pg_app_l _ _ (by omega), p3 i (by omega)]
  refine Call.intro (by rfl) (Nat.le_of_ble_eq_true rfl) ?_
  refine G.eqL (L := [some (.ref _), some (.int _), some (.int _), some (.int _), some (.int _), none]) rfl ?_
  refine B_Model_takes_0 ?_
  simp only [wp_cons, wp_nil, List.getElem?_cons_zero, List.getElem?_cons_succ, List.set_cons_zero, List.set_cons_succ, s_iconst, s_istore, p1_s, s1_0, s1_s, kx_i, kx_r, kx_n, kx_l, kx_0, true_and, and_true, Nat.le_refl, true_implies, forall_const, not_false_eq_true, false_implies, not_true_eq_false, reduceCtorEq, tl_s, tl_n, rf_s, List.cons_append, List.nil_append, true_or, or_true]
  exact loop c 0 h0 r A (by omega) chg.rf hm0 (fun n _ => rfl) (fun n _ => rfl) (by unfold lf; rw [List.append_nil]; exact hp0)
theorem Mdl_lays_c {d M s : Nat} {z : Bool} (d1 : 1 ≤ d) {L : List Int} {r : Nat → Int} {A : Nat → Nat → Int} {h0 : g_H} {Q : g_Po} (hm0 : mdl h0 M r A) (hp : pts r A L) (hL : L.length ≤ 30) (hs : s < 10)
    (hQ : ∀ h' A', chg M (M + 10) h0 h' → mdl h' M r A' → (∀ n, n ≠ 1 → A' n = A n) → (∀ j, j < 32 + 32 * s ∨ 64 + 32 * s ≤ j → A' 1 j = A 1 j) → A' 1 (32 + 32 * s) = L.length → A' 1 (33 + 32 * s) = sz z → (∀ k, k < L.length → A' 1 (34 + 32 * s + k) = pg L k) → Q none h') : Call Model_lays d 0 0 [.ref M, .int (I (s : Int)), .int (I (sz z))] h0 Q := by
  obtain ⟨p1, p2, p3⟩ := hp
  have hz := sz_bd z
  have loop : ∀ (m k : Nat) (h : g_H) (A' : Nat → Nat → Int), k + m = 30 → chg M (M + 10) h0 h → mdl h M r A' → (∀ n, n ≠ 1 → A' n = A n) → (∀ j, j < 32 + 32 * s ∨ 64 + 32 * s ≤ j → A' 1 j = A 1 j) → A' 1 (32 + 32 * s) = L.length → A' 1 (33 + 32 * s) = sz z → (∀ i, i < k → i < L.length → A' 1 (34 + 32 * s + i) = pg L i) → G Model_lays d 0 0 0 0 27 [some (.ref M), some (.int (I (s : Int))), some (.int (I (sz z))), some (.int (I (k : Int)))] [] h Q := by
    intro m
    induction m with
    | zero =>
      intro k h A' hk hc hm h2 h3 h4 h5 h6
      obtain rfl : k = 30 := by omega
      refine B_Model_lays_27 ?_
      simp only [wp_cons, wp_nil, List.getElem?_cons_zero, List.getElem?_cons_succ, List.set_cons_zero, List.set_cons_succ, s_iload_n3, ldI_s, s_bipush, s_if_icmp_ge, p2_s, true_and, and_true, Nat.le_refl, true_implies, forall_const, not_false_eq_true, false_implies, not_true_eq_false, reduceCtorEq, tl_s, tl_n, rf_s, List.cons_append, List.nil_append, true_or, or_true, hm.c]
      refine b_le (by omega) (by omega) (fun cc => ?_) (fun cc => absurd cc (by omega))
      refine B_Model_lays_65 ?_
      simp only [wp_cons, wp_nil, List.getElem?_cons_zero, List.getElem?_cons_succ, List.set_cons_zero, List.set_cons_succ, s_return_, rt_Model_lays, true_and, and_true, Nat.le_refl, true_implies, forall_const, not_false_eq_true, false_implies, not_true_eq_false, reduceCtorEq, tl_s, tl_n, rf_s, List.cons_append, List.nil_append, true_or, or_true, hm.c]
      exact hQ h A' hc hm h2 h3 h4 h5 (fun i hi => h6 i (by omega) hi)
    | succ m ih =>
      intro k h A' hk hc hm h2 h3 h4 h5 h6
      have key : ∀ v : Int, (k < L.length → v = pg L k) → G Model_lays d 0 0 0 0 56 [some (.ref M), some (.int (I (s : Int))), some (.int (I (sz z))), some (.int (I (k : Int)))] [.int (I v), .int (I (2 + (k : Int))), .int (I (s : Int)), .ref M] h Q := by
        intro v hv
        refine B_Model_lays_56 ?_
        simp only [wp_cons, wp_nil, List.getElem?_cons_zero, List.getElem?_cons_succ, List.set_cons_zero, List.set_cons_succ, s_invokevirtual, rc_s, ob_s, List.drop_succ_cons, List.drop_zero, List.take_succ_cons, List.take_zero, List.reverse_cons, List.reverse_nil, List.nil_append, List.cons_append, List.length_cons, List.length_nil, d1, Int.reduceToNat, Nat.reduceAdd, Nat.reduceLeDiff, true_and, and_true, Nat.le_refl, true_implies, forall_const, not_false_eq_true, false_implies, not_true_eq_false, reduceCtorEq, tl_s, tl_n, rf_s, true_or, or_true, hm.c]
        refine Mdl_set_c (j := 34 + 32 * s + k) hm (by omega) (by omega) (fun h7 c7 m7 => ?_)
        refine B_Model_lays_59 ?_
        simp only [wp_cons, wp_nil, List.getElem?_cons_zero, List.getElem?_cons_succ, List.set_cons_zero, List.set_cons_succ, s_iinc, ldI_s, s1_0, s1_s, kx_i, kx_r, kx_n, kx_l, kx_0, I_add, s_goto, true_and, and_true, Nat.le_refl, true_implies, forall_const, not_false_eq_true, false_implies, not_true_eq_false, reduceCtorEq, tl_s, tl_n, rf_s, List.cons_append, List.nil_append, true_or, or_true, hm.c]
        refine ih (k + 1) h7 _ (by omega) (hc.tr c7) m7 (fun n hn => by rw [ua_n _ _ _ hn, h2 n hn]) (fun j hj => by rw [ua_s, ui_n _ _ (by omega), h3 j hj]) (by rw [ua_s, ui_n _ _ (by omega), h4]) (by rw [ua_s, ui_n _ _ (by omega), h5]) (fun i hi hi2 => ?_)
        rw [ua_s]
        by_cases e : i = k
        · rw [e, ui_s]; exact hv (by omega)
        · rw [ui_n _ _ (by omega)]; exact h6 i (by omega) hi2
      have e9 := h2 9 (by omega)
      by_cases c : k < L.length
      · refine B_Model_lays_27 ?_
        simp only [wp_cons, wp_nil, List.getElem?_cons_zero, List.getElem?_cons_succ, List.set_cons_zero, List.set_cons_succ, s_iload_n3, ldI_s, s_bipush, s_if_icmp_ge, p2_s, true_and, and_true, Nat.le_refl, true_implies, forall_const, not_false_eq_true, false_implies, not_true_eq_false, reduceCtorEq, tl_s, tl_n, rf_s, List.cons_append, List.nil_append, true_or, or_true, hm.c, p1, hm.g9, ex_ix (i := k) (n := 64) (by omega)]
        refine b_le (by omega) (by omega) (fun cc => absurd cc (by omega)) (fun cc => ?_)
        refine B_Model_lays_33 ?_
        simp only [wp_cons, wp_nil, List.getElem?_cons_zero, List.getElem?_cons_succ, List.set_cons_zero, List.set_cons_succ, s_aload_n0, ldA_r, ldA_n, s_iload_n1, ldI_s, s_iconst, s_iload_n3, s_iadd, p2_s, I_add, s_getfield, pR_s, ob_s, gt_s, s_if_icmp_ge, true_and, and_true, Nat.le_refl, true_implies, forall_const, not_false_eq_true, false_implies, not_true_eq_false, reduceCtorEq, tl_s, tl_n, rf_s, List.cons_append, List.nil_append, true_or, or_true, hm.c, p1, hm.g9, ex_ix (i := k) (n := 64) (by omega)]
        refine b_le (by omega) (by omega) (fun cc => absurd cc (by omega)) (fun cc => ?_)
        refine B_Model_lays_46 ?_
        simp only [wp_cons, wp_nil, List.getElem?_cons_zero, List.getElem?_cons_succ, List.set_cons_zero, List.set_cons_succ, s_aload_n0, ldA_r, ldA_n, s_getfield, pR_s, ob_s, gt_s, s_iload_n3, ldI_s, s_iaload, iR_s, ia_s, s_goto, true_and, and_true, Nat.le_refl, true_implies, forall_const, not_false_eq_true, false_implies, not_true_eq_false, reduceCtorEq, tl_s, tl_n, rf_s, List.cons_append, List.nil_append, true_or, or_true, hm.c, p1, hm.g9, ex_ix (i := k) (n := 64) (by omega)]
        exact key _ (fun _ => by rw [e9, p3 k c])
      · refine B_Model_lays_27 ?_
        simp only [wp_cons, wp_nil, List.getElem?_cons_zero, List.getElem?_cons_succ, List.set_cons_zero, List.set_cons_succ, s_iload_n3, ldI_s, s_bipush, s_if_icmp_ge, p2_s, true_and, and_true, Nat.le_refl, true_implies, forall_const, not_false_eq_true, false_implies, not_true_eq_false, reduceCtorEq, tl_s, tl_n, rf_s, List.cons_append, List.nil_append, true_or, or_true, hm.c, p1, hm.g9, ex_ix (i := k) (n := 64) (by omega)]
        refine b_le (by omega) (by omega) (fun cc => absurd cc (by omega)) (fun cc => ?_)
        refine B_Model_lays_33 ?_
        simp only [wp_cons, wp_nil, List.getElem?_cons_zero, List.getElem?_cons_succ, List.set_cons_zero, List.set_cons_succ, s_aload_n0, ldA_r, ldA_n, s_iload_n1, ldI_s, s_iconst, s_iload_n3, s_iadd, p2_s, I_add, s_getfield, pR_s, ob_s, gt_s, s_if_icmp_ge, true_and, and_true, Nat.le_refl, true_implies, forall_const, not_false_eq_true, false_implies, not_true_eq_false, reduceCtorEq, tl_s, tl_n, rf_s, List.cons_append, List.nil_append, true_or, or_true, hm.c, p1, hm.g9, ex_ix (i := k) (n := 64) (by omega)]
        refine b_le (by omega) (by omega) (fun cc => ?_) (fun cc => absurd cc (by omega))
        refine B_Model_lays_55 ?_
        simp only [wp_cons, wp_nil, List.getElem?_cons_zero, List.getElem?_cons_succ, List.set_cons_zero, List.set_cons_succ, s_iconst, true_and, and_true, Nat.le_refl, true_implies, forall_const, not_false_eq_true, false_implies, not_true_eq_false, reduceCtorEq, tl_s, tl_n, rf_s, List.cons_append, List.nil_append, true_or, or_true, hm.c, p1, hm.g9, ex_ix (i := k) (n := 64) (by omega)]
        exact key _ (fun q => absurd q c)
  have tail : ∀ (h : g_H) (A' : Nat → Nat → Int), chg M (M + 10) h0 h → mdl h M r A' → (∀ n, n ≠ 1 → A' n = A n) → (∀ j, j < 32 + 32 * s ∨ 64 + 32 * s ≤ j → A' 1 j = A 1 j) → A' 1 (32 + 32 * s) = L.length → G Model_lays d 0 0 0 0 22 [some (.ref M), some (.int (I (s : Int))), some (.int (I (sz z))), none] [.int (I (sz z)), .int (I 1), .int (I (s : Int)), .ref M] h Q := by
    intro h A' hc hm h2 h3 h4
    refine B_Model_lays_22 ?_
    simp only [wp_cons, wp_nil, List.getElem?_cons_zero, List.getElem?_cons_succ, List.set_cons_zero, List.set_cons_succ, s_invokevirtual, rc_s, ob_s, List.drop_succ_cons, List.drop_zero, List.take_succ_cons, List.take_zero, List.reverse_cons, List.reverse_nil, List.nil_append, List.cons_append, List.length_cons, List.length_nil, d1, Int.reduceToNat, Nat.reduceAdd, Nat.reduceLeDiff, true_and, and_true, Nat.le_refl, true_implies, forall_const, not_false_eq_true, false_implies, not_true_eq_false, reduceCtorEq, tl_s, tl_n, rf_s, true_or, or_true, hm.c]
    refine Mdl_set_c (j := 33 + 32 * s) hm (by omega) (by omega) (fun h7 c7 m7 => ?_)
    refine B_Model_lays_25 ?_
    simp only [wp_cons, wp_nil, List.getElem?_cons_zero, List.getElem?_cons_succ, List.set_cons_zero, List.set_cons_succ, s_iconst, s_istore_n3, p1_s, s1_0, s1_s, kx_i, kx_r, kx_n, kx_l, kx_0, true_and, and_true, Nat.le_refl, true_implies, forall_const, not_false_eq_true, false_implies, not_true_eq_false, reduceCtorEq, tl_s, tl_n, rf_s, List.cons_append, List.nil_append, true_or, or_true, hm.c]
    exact loop 30 0 h7 _ (by omega) (hc.tr c7) m7 (fun n hn => by rw [ua_n _ _ _ hn, h2 n hn]) (fun j hj => by rw [ua_s, ui_n _ _ (by omega), h3 j hj]) (by rw [ua_s, ui_n _ _ (by omega), h4]) (by rw [ua_s, ui_s]) (fun i hi => absurd hi (by omega))
  refine Call.intro (by rfl) (Nat.le_of_ble_eq_true rfl) ?_
  refine G.eqL (L := [some (.ref _), some (.int _), some (.int _), none]) rfl ?_
  refine B_Model_lays_0 ?_
  simp only [wp_cons, wp_nil, List.getElem?_cons_zero, List.getElem?_cons_succ, List.set_cons_zero, List.set_cons_succ, s_aload_n0, ldA_r, ldA_n, s_iload_n1, ldI_s, s_iconst, s_getfield, pR_s, ob_s, gt_s, s_invokevirtual, rc_s, List.drop_succ_cons, List.drop_zero, List.take_succ_cons, List.take_zero, List.reverse_cons, List.reverse_nil, List.nil_append, List.cons_append, List.length_cons, List.length_nil, d1, Int.reduceToNat, Nat.reduceAdd, Nat.reduceLeDiff, true_and, and_true, Nat.le_refl, true_implies, forall_const, not_false_eq_true, false_implies, not_true_eq_false, reduceCtorEq, tl_s, tl_n, rf_s, true_or, or_true, hm0.c, p1]
  refine Mdl_set_c (j := 32 + 32 * s) hm0 (by omega) (by omega) (fun h1 c1 m1 => ?_)
  have t := tail h1 _ c1 m1 (fun n hn => ua_n _ _ _ hn) (fun j hj => by rw [ua_s, ui_n _ _ (by omega)]) (by rw [ua_s, ui_s])
  cases z with
  | true =>
    rw [show sz true = 1 from rfl] at t ⊢
    refine B_Model_lays_10 ?_
    simp only [wp_cons, wp_nil, List.getElem?_cons_zero, List.getElem?_cons_succ, List.set_cons_zero, List.set_cons_succ, s_aload_n0, ldA_r, ldA_n, s_iload_n1, ldI_s, s_iconst, s_iload_n2, s_ifCond_eq, p1_s, true_and, and_true, Nat.le_refl, true_implies, forall_const, not_false_eq_true, false_implies, not_true_eq_false, reduceCtorEq, tl_s, tl_n, rf_s, List.cons_append, List.nil_append, true_or, or_true, hm0.c, p1]
    refine b_eq (by omega) (by omega) (fun cc => absurd cc (by omega)) (fun cc => ?_)
    refine B_Model_lays_17 ?_
    simp only [wp_cons, wp_nil, List.getElem?_cons_zero, List.getElem?_cons_succ, List.set_cons_zero, List.set_cons_succ, s_iconst, s_goto, true_and, and_true, Nat.le_refl, true_implies, forall_const, not_false_eq_true, false_implies, not_true_eq_false, reduceCtorEq, tl_s, tl_n, rf_s, List.cons_append, List.nil_append, true_or, or_true, hm0.c, p1]
    exact t
  | false =>
    rw [show sz false = 0 from rfl] at t ⊢
    refine B_Model_lays_10 ?_
    simp only [wp_cons, wp_nil, List.getElem?_cons_zero, List.getElem?_cons_succ, List.set_cons_zero, List.set_cons_succ, s_aload_n0, ldA_r, ldA_n, s_iload_n1, ldI_s, s_iconst, s_iload_n2, s_ifCond_eq, p1_s, true_and, and_true, Nat.le_refl, true_implies, forall_const, not_false_eq_true, false_implies, not_true_eq_false, reduceCtorEq, tl_s, tl_n, rf_s, List.cons_append, List.nil_append, true_or, or_true, hm0.c, p1]
    refine B_Model_lays_21 ?_
    simp only [wp_cons, wp_nil, List.getElem?_cons_zero, List.getElem?_cons_succ, List.set_cons_zero, List.set_cons_succ, s_iconst, true_and, and_true, Nat.le_refl, true_implies, forall_const, not_false_eq_true, false_implies, not_true_eq_false, reduceCtorEq, tl_s, tl_n, rf_s, List.cons_append, List.nil_append, true_or, or_true, hm0.c, p1]
    exact t
/-- a drawing's numbers after a stroke has been laid -/
theorem stR.lay {f f' : Nat → Int} {Ss : List Stk} {pn : Stk} {s : Nat} {L : List Int} {z : Bool} (hr : stR f (Ss, pn)) (hb : ∀ i, i < Ss.length → (sg Ss i).1.length ≤ 30) (hpn : pn.1.length ≤ 30) (hs : s < Ss.length) (h3 : ∀ j, j < 32 + 32 * s ∨ 64 + 32 * s ≤ j → f' j = f j) (h4 : f' (32 + 32 * s) = L.length) (h5 : f' (33 + 32 * s) = sz z) (h6 : ∀ k, k < L.length → f' (34 + 32 * s + k) = pg L k) : stR f' (Ss.set s (L, z), pn) := by
  obtain ⟨a1, a2, a3, a4⟩ := hr
  refine ⟨?_, ?_, fun k hk => ?_, fun i hi => ?_⟩
  · rw [h3 0 (by omega), a1]; simp
  · rw [h3 1 (by omega), a2]
  · have : k < pn.1.length := hk
    rw [h3 _ (by omega), a3 k hk]
  · simp at hi
    rw [sg_set _ _ _ hs]
    by_cases e : i = s
    · rw [if_pos e, e]; exact ⟨h4, h5, h6⟩
    · rw [if_neg e]
      obtain ⟨b1, b2, b3⟩ := a4 i hi
      have := hb i hi
      dsimp only at b1 b2 b3
      exact ⟨(h3 _ (by omega)).trans b1, (h3 _ (by omega)).trans b2, fun k hk => (h3 _ (by omega)).trans (b3 k hk)⟩
theorem Mdl_adds_c {d M : Nat} {z : Bool} (d2 : 2 ≤ d) {L : List Int} {Ss : List Stk} {pn : Stk} {r : Nat → Int} {A : Nat → Nat → Int} {h0 : g_H} {Q : g_Po} (hm0 : mdl h0 M r A) (hp : pts r A L) (hL : L.length ≤ 30) (hr : stR (A 1) (Ss, pn)) (hb : ∀ i, i < Ss.length → (sg Ss i).1.length ≤ 30) (hpn : pn.1.length ≤ 30) (hs : Ss.length < 10)
    (hQ : ∀ h' A', chg M (M + 10) h0 h' → mdl h' M r A' → (∀ n, n ≠ 1 → A' n = A n) → stR (A' 1) (Ss ++ [(L, z)], pn) → Q (some (.int (I (Ss.length : Int)))) h') : Call Model_adds d 0 0 [.ref M, .int (I (sz z))] h0 Q := by
  have d1 : 1 ≤ d := by omega
  obtain ⟨a1, a2, a3, a4⟩ := id hr
  dsimp only at a1
  have hm1 := hm0.a1 0 ((Ss.length : Int) + 1)
  refine Call.intro (by rfl) (Nat.le_of_ble_eq_true rfl) ?_
  refine G.eqL (L := [some (.ref _), some (.int _), none]) rfl ?_
  refine B_Model_adds_0 ?_
  simp only [wp_cons, wp_nil, List.getElem?_cons_zero, List.getElem?_cons_succ, List.set_cons_zero, List.set_cons_succ, s_aload_n0, ldA_r, ldA_n, s_getfield, pR_s, ob_s, gt_s, s_iconst, s_iaload, iR_s, ia_s, s_istore_n2, p1_s, s1_0, s1_s, kx_i, kx_r, kx_n, kx_l, kx_0, s_dup2, p2v_s, s_iadd, p2_s, I_add, s_iastore, iiR_s, s_iload_n2, ldI_s, s_iload_n1, s_invokevirtual, rc_s, List.drop_succ_cons, List.drop_zero, List.take_succ_cons, List.take_zero, List.reverse_cons, List.reverse_nil, List.nil_append, List.cons_append, List.length_cons, List.length_nil, d1, Int.reduceToNat, Nat.reduceAdd, Nat.reduceLeDiff, true_and, and_true, Nat.le_refl, true_implies, forall_const, not_false_eq_true, false_implies, not_true_eq_false, reduceCtorEq, tl_s, tl_n, rf_s, true_or, or_true, hm0.c, hm0.g1, a1, hm1.c, ex_ie (x := 0) (i := 0) (n := 352) rfl (by omega), upd_ui]
  refine Mdl_lays_c (by omega) hm1 (L := L) ⟨hp.1, hp.2.1, fun k hk => by rw [ua_n _ _ _ (by omega)]; exact hp.2.2 k hk⟩ hL hs (fun h' A' c' m' e2 e3 e4 e5 e6 => ?_)
  refine B_Model_adds_23 ?_
  simp only [wp_cons, wp_nil, List.getElem?_cons_zero, List.getElem?_cons_succ, List.set_cons_zero, List.set_cons_succ, s_iload_n2, ldI_s, s_ireturn, p1_s, rI_i, rI_z, rI_c, z_01, z_11, rt_Model_adds, true_and, and_true, Nat.le_refl, true_implies, forall_const, not_false_eq_true, false_implies, not_true_eq_false, reduceCtorEq, tl_s, tl_n, rf_s, List.cons_append, List.nil_append, true_or, or_true, hm0.c, hm0.g1, a1, hm1.c, ex_ie (x := 0) (i := 0) (n := 352) rfl (by omega), upd_ui]
  refine hQ h' A' ((chg.set _ (by omega)).tr c') m' (fun n hn => by rw [e2 n hn, ua_n _ _ _ hn]) ⟨?_, ?_, fun k hk => ?_, fun i hi => ?_⟩
  · rw [e3 0 (by omega), ua_s, ui_s]; simp
  · rw [e3 1 (by omega), ua_s, ui_n _ _ (by omega)]; exact a2
  · have : k < pn.1.length := hk
    rw [e3 _ (by omega), ua_s, ui_n _ _ (by omega)]; exact a3 k hk
  · simp at hi
    by_cases e : i = Ss.length
    · rw [e, sg_app_r _ _ (Nat.le_refl _), Nat.sub_self]
      exact ⟨e4, e5, e6⟩
    · have hi' : i < Ss.length := by omega
      rw [sg_app_l _ _ hi']
      obtain ⟨b1, b2, b3⟩ := a4 i hi'
      have := hb i hi'
      dsimp only at b1 b2 b3
      exact ⟨by rw [e3 _ (by omega), ua_s, ui_n _ _ (by omega)]; exact b1, by rw [e3 _ (by omega), ua_s, ui_n _ _ (by omega)]; exact b2, fun k hk => by rw [e3 _ (by omega), ua_s, ui_n _ _ (by omega)]; exact b3 k hk⟩
theorem Mdl_out_c {d M s : Nat} (d1 : 1 ≤ d) {Ss : List Stk} {pn : Stk} {r : Nat → Int} {A : Nat → Nat → Int} {h0 : g_H} {Q : g_Po} (hm0 : mdl h0 M r A) (hr : stR (A 1) (Ss, pn)) (w : wfL Ss) (hpn : pn.1.length ≤ 30) (hs : s < Ss.length)
    (hQ : ∀ h' A', chg M (M + 10) h0 h' → mdl h' M r A' → (∀ n, n ≠ 1 → A' n = A n) → stR (A' 1) (Ss.eraseIdx s, pn) → Q none h') : Call Model_takesOut d 0 0 [.ref M, .int (I (s : Int))] h0 Q := by
  obtain ⟨a1, a2, a3, a4⟩ := id hr
  dsimp only at a1 a2 a3 a4
  have w0 := w.1
  have fin : ∀ (h : g_H) (A' : Nat → Nat → Int), chg M (M + 10) h0 h → mdl h M r A' → (∀ n, n ≠ 1 → A' n = A n) → A' 1 0 = (Ss.length : Int) - 1 → (∀ j, 0 < j → j < 32 + 32 * s → A' 1 j = A 1 j) → (∀ j, 32 + 32 * s ≤ j → j < 32 * Ss.length → A' 1 j = A 1 (j + 32)) → Q none h := by
    intro h A' hc hm h2 h3 h4 h5
    have hle : (Ss.eraseIdx s).length = Ss.length - 1 := by rw [List.length_eraseIdx, if_pos hs]
    refine hQ h A' hc hm h2 ⟨?_, ?_, fun k hk => ?_, fun i hi => ?_⟩
    · rw [h3]; show (Ss.length : Int) - 1 = ((Ss.eraseIdx s).length : Int); omega
    · rw [h4 1 (by omega) (by omega)]; exact a2
    · have : k < pn.1.length := hk
      rw [h4 _ (by omega) (by omega)]; exact a3 k hk
    · replace hi : i < (Ss.eraseIdx s).length := hi
      show A' 1 (32 + 32 * i) = ((sg (Ss.eraseIdx s) i).1.length : Int) ∧ A' 1 (33 + 32 * i) = sz (sg (Ss.eraseIdx s) i).2 ∧ ∀ k, k < (sg (Ss.eraseIdx s) i).1.length → A' 1 (34 + 32 * i + k) = pg (sg (Ss.eraseIdx s) i).1 k
      rw [sg_erase]
      by_cases e : i < s
      · rw [if_pos e]
        obtain ⟨b1, b2, b3⟩ := a4 i (by omega)
        have := (w.2 i (by omega)).2.1
        exact ⟨(h4 _ (by omega) (by omega)).trans b1, (h4 _ (by omega) (by omega)).trans b2, fun k hk => (h4 _ (by omega) (by omega)).trans (b3 k hk)⟩
      · rw [if_neg e]
        obtain ⟨b1, b2, b3⟩ := a4 (i + 1) (by omega)
        have := (w.2 (i + 1) (by omega)).2.1
        refine ⟨(h5 _ (by omega) (by omega)).trans ?_, (h5 _ (by omega) (by omega)).trans ?_, fun k hk => (h5 _ (by omega) (by omega)).trans ?_⟩
        · rw [show 32 + 32 * i + 32 = 32 + 32 * (i + 1) by omega]; exact b1
        · rw [show 33 + 32 * i + 32 = 33 + 32 * (i + 1) by omega]; exact b2
        · rw [show 34 + 32 * i + k + 32 = 34 + 32 * (i + 1) + k by omega]; exact b3 k hk
  have loop2 : ∀ (m j : Nat) (h : g_H) (A' : Nat → Nat → Int), j + m = 352 → 32 * Ss.length ≤ j → 32 ≤ j → chg M (M + 10) h0 h → mdl h M r A' → (∀ n, n ≠ 1 → A' n = A n) → A' 1 0 = (Ss.length : Int) - 1 → (∀ j, 0 < j → j < 32 + 32 * s → A' 1 j = A 1 j) → (∀ j, 32 + 32 * s ≤ j → j < 32 * Ss.length → A' 1 j = A 1 (j + 32)) → G Model_takesOut d 0 0 0 0 68 [some (.ref M), some (.int (I (s : Int))), some (.int (I (j : Int)))] [] h Q := by
    intro m
    induction m with
    | zero =>
      intro j h A' hj hj1 hj2 hc hm h2 h3 h4 h5
      obtain rfl : j = 352 := by omega
      refine B_Model_takesOut_68 ?_
      simp only [wp_cons, wp_nil, List.getElem?_cons_zero, List.getElem?_cons_succ, List.set_cons_zero, List.set_cons_succ, s_iload_n2, ldI_s, s_sipush, s_if_icmp_ge, p2_s, true_and, and_true, Nat.le_refl, true_implies, forall_const, not_false_eq_true, false_implies, not_true_eq_false, reduceCtorEq, tl_s, tl_n, rf_s, List.cons_append, List.nil_append, true_or, or_true, hm.c]
      refine b_le (by omega) (by omega) (fun cc => ?_) (fun cc => absurd cc (by omega))
      refine B_Model_takesOut_88 ?_
      simp only [wp_cons, wp_nil, List.getElem?_cons_zero, List.getElem?_cons_succ, List.set_cons_zero, List.set_cons_succ, s_return_, rt_Model_takesOut, true_and, and_true, Nat.le_refl, true_implies, forall_const, not_false_eq_true, false_implies, not_true_eq_false, reduceCtorEq, tl_s, tl_n, rf_s, List.cons_append, List.nil_append, true_or, or_true, hm.c]
      exact fin h A' hc hm h2 h3 h4 h5
    | succ m ih =>
      intro j h A' hj hj1 hj2 hc hm h2 h3 h4 h5
      refine B_Model_takesOut_68 ?_
      simp only [wp_cons, wp_nil, List.getElem?_cons_zero, List.getElem?_cons_succ, List.set_cons_zero, List.set_cons_succ, s_iload_n2, ldI_s, s_sipush, s_if_icmp_ge, p2_s, true_and, and_true, Nat.le_refl, true_implies, forall_const, not_false_eq_true, false_implies, not_true_eq_false, reduceCtorEq, tl_s, tl_n, rf_s, List.cons_append, List.nil_append, true_or, or_true, hm.c, hm.g1, ex_ix (i := j) (n := 352) (by omega), upd_ui]
      refine b_le (by omega) (by omega) (fun cc => absurd cc (by omega)) (fun cc => ?_)
      refine B_Model_takesOut_75 ?_
      simp only [wp_cons, wp_nil, List.getElem?_cons_zero, List.getElem?_cons_succ, List.set_cons_zero, List.set_cons_succ, s_aload_n0, ldA_r, ldA_n, s_getfield, pR_s, ob_s, gt_s, s_iload_n2, ldI_s, s_iconst, s_iastore, iiR_s, ia_s, s_iinc, s1_0, s1_s, kx_i, kx_r, kx_n, kx_l, kx_0, I_add, s_goto, true_and, and_true, Nat.le_refl, true_implies, forall_const, not_false_eq_true, false_implies, not_true_eq_false, reduceCtorEq, tl_s, tl_n, rf_s, List.cons_append, List.nil_append, true_or, or_true, hm.c, hm.g1, ex_ix (i := j) (n := 352) (by omega), upd_ui]
      exact ih (j + 1) _ _ (by omega) (by omega) (by omega) (hc.tr (chg.set _ (by omega))) (hm.a1 j 0) (fun n hn => by rw [ua_n _ _ _ hn, h2 n hn]) (by rw [ua_s, ui_n _ _ (by omega), h3]) (fun i hi1 hi2 => by rw [ua_s, ui_n _ _ (by omega), h4 i hi1 hi2]) (fun i hi1 hi2 => by rw [ua_s, ui_n _ _ (by omega), h5 i hi1 hi2])
  have loop1 : ∀ (m j : Nat) (h : g_H) (A' : Nat → Nat → Int), j + m = 32 * Ss.length → 32 + 32 * s ≤ j → chg M (M + 10) h0 h → mdl h M r A' → (∀ n, n ≠ 1 → A' n = A n) → A' 1 0 = (Ss.length : Int) - 1 → (∀ i, 0 < i → i < 32 + 32 * s → A' 1 i = A 1 i) → (∀ i, 32 + 32 * s ≤ i → i < j → A' 1 i = A 1 (i + 32)) → (∀ i, j ≤ i → A' 1 i = A 1 i) → G Model_takesOut d 0 0 0 0 18 [some (.ref M), some (.int (I (s : Int))), some (.int (I (j : Int)))] [] h Q := by
    intro m
    induction m with
    | zero =>
      intro j h A' hj hj1 hc hm h2 h3 h4 h5 h6
      obtain rfl : j = 32 * Ss.length := by omega
      refine B_Model_takesOut_18 ?_
      simp only [wp_cons, wp_nil, List.getElem?_cons_zero, List.getElem?_cons_succ, List.set_cons_zero, List.set_cons_succ, s_iload_n2, ldI_s, s_bipush, s_aload_n0, ldA_r, ldA_n, s_getfield, pR_s, ob_s, gt_s, s_iconst, s_iaload, iR_s, ia_s, s_imul, p2_s, I_mul, s_iadd, I_add, s_if_icmp_ge, true_and, and_true, Nat.le_refl, true_implies, forall_const, not_false_eq_true, false_implies, not_true_eq_false, reduceCtorEq, tl_s, tl_n, rf_s, List.cons_append, List.nil_append, true_or, or_true, hm.c, hm.g1, h3, ex_ie (x := 0) (i := 0) (n := 352) rfl (by omega)]
      refine b_le (by omega) (by omega) (fun cc => ?_) (fun cc => absurd cc (by omega))
      refine B_Model_takesOut_55 ?_
      simp only [wp_cons, wp_nil, List.getElem?_cons_zero, List.getElem?_cons_succ, List.set_cons_zero, List.set_cons_succ, s_bipush, s_aload_n0, ldA_r, ldA_n, s_getfield, pR_s, ob_s, gt_s, s_iconst, s_iaload, iR_s, ia_s, s_imul, p2_s, I_mul, s_iadd, I_add, s_istore_n2, p1_s, s1_0, s1_s, kx_i, kx_r, kx_n, kx_l, kx_0, true_and, and_true, Nat.le_refl, true_implies, forall_const, not_false_eq_true, false_implies, not_true_eq_false, reduceCtorEq, tl_s, tl_n, rf_s, List.cons_append, List.nil_append, true_or, or_true, hm.c, hm.g1, h3, ex_ie (x := 0) (i := 0) (n := 352) rfl (by omega)]
      rw [show (32 : Int) + 32 * ((Ss.length : Int) - 1) = ((32 * Ss.length : Nat) : Int) by omega]
      exact loop2 (352 - 32 * Ss.length) (32 * Ss.length) h A' (by omega) (by omega) (by omega) hc hm h2 h3 h4 h5
    | succ m ih =>
      intro j h A' hj hj1 hc hm h2 h3 h4 h5 h6
      refine B_Model_takesOut_18 ?_
      simp only [wp_cons, wp_nil, List.getElem?_cons_zero, List.getElem?_cons_succ, List.set_cons_zero, List.set_cons_succ, s_iload_n2, ldI_s, s_bipush, s_aload_n0, ldA_r, ldA_n, s_getfield, pR_s, ob_s, gt_s, s_iconst, s_iaload, iR_s, ia_s, s_imul, p2_s, I_mul, s_iadd, I_add, s_if_icmp_ge, true_and, and_true, Nat.le_refl, true_implies, forall_const, not_false_eq_true, false_implies, not_true_eq_false, reduceCtorEq, tl_s, tl_n, rf_s, List.cons_append, List.nil_append, true_or, or_true, hm.c, hm.g1, h3, ex_ie (x := 0) (i := 0) (n := 352) rfl (by omega), ex_ix (i := j) (n := 352) (by omega), ex_ie (x := (j : Int) + 32) (i := j + 32) (n := 352) (by omega) (by omega), upd_ui]
      refine b_le (by omega) (by omega) (fun cc => absurd cc (by omega)) (fun cc => ?_)
      refine B_Model_takesOut_34 ?_
      simp only [wp_cons, wp_nil, List.getElem?_cons_zero, List.getElem?_cons_succ, List.set_cons_zero, List.set_cons_succ, s_aload_n0, ldA_r, ldA_n, s_getfield, pR_s, ob_s, gt_s, s_iload_n2, ldI_s, s_bipush, s_iadd, p2_s, I_add, s_iaload, iR_s, ia_s, s_iastore, iiR_s, s_iinc, s1_0, s1_s, kx_i, kx_r, kx_n, kx_l, kx_0, s_goto, true_and, and_true, Nat.le_refl, true_implies, forall_const, not_false_eq_true, false_implies, not_true_eq_false, reduceCtorEq, tl_s, tl_n, rf_s, List.cons_append, List.nil_append, true_or, or_true, hm.c, hm.g1, h3, ex_ie (x := 0) (i := 0) (n := 352) rfl (by omega), ex_ix (i := j) (n := 352) (by omega), ex_ie (x := (j : Int) + 32) (i := j + 32) (n := 352) (by omega) (by omega), upd_ui]
      refine ih (j + 1) _ _ (by omega) (by omega) (hc.tr (chg.set _ (by omega))) (hm.a1 j (A' 1 (j + 32))) (fun n hn => by rw [ua_n _ _ _ hn, h2 n hn]) (by rw [ua_s, ui_n _ _ (by omega), h3]) (fun i hi1 hi2 => by rw [ua_s, ui_n _ _ (by omega), h4 i hi1 hi2]) (fun i hi1 hi2 => ?_) (fun i hi => by rw [ua_s, ui_n _ _ (by omega), h6 i (by omega)])
      rw [ua_s]
      by_cases e : i = j
      · rw [e, ui_s, h6 (j + 32) (by omega)]
      · rw [ui_n _ _ e, h5 i hi1 (by omega)]
  have hm1 := hm0.a1 0 ((Ss.length : Int) - 1)
  refine Call.intro (by rfl) (Nat.le_of_ble_eq_true rfl) ?_
  refine G.eqL (L := [some (.ref _), some (.int _), none]) rfl ?_
  refine B_Model_takesOut_0 ?_
  simp only [wp_cons, wp_nil, List.getElem?_cons_zero, List.getElem?_cons_succ, List.set_cons_zero, List.set_cons_succ, s_aload_n0, ldA_r, ldA_n, s_getfield, pR_s, ob_s, gt_s, s_iconst, s_dup2, p2v_s, s_iaload, iR_s, ia_s, s_isub, p2_s, I_sub, s_iastore, iiR_s, s_bipush, s_iload_n1, ldI_s, s_imul, I_mul, s_iadd, I_add, s_istore_n2, p1_s, s1_0, s1_s, kx_i, kx_r, kx_n, kx_l, kx_0, true_and, and_true, Nat.le_refl, true_implies, forall_const, not_false_eq_true, false_implies, not_true_eq_false, reduceCtorEq, tl_s, tl_n, rf_s, List.cons_append, List.nil_append, true_or, or_true, hm0.c, hm0.g1, a1, ex_ie (x := 0) (i := 0) (n := 352) rfl (by omega), upd_ui]
  rw [show (32 : Int) + 32 * (s : Int) = ((32 + 32 * s : Nat) : Int) by omega]
  exact loop1 (32 * Ss.length - (32 + 32 * s)) (32 + 32 * s) _ _ (by omega) (Nat.le_refl _) (chg.set _ (by omega)) hm1 (fun n hn => ua_n _ _ _ hn) (by rw [ua_s, ui_s]) (fun i hi1 hi2 => by rw [ua_s, ui_n _ _ (by omega)]) (fun i hi1 hi2 => by omega) (fun i hi => by rw [ua_s, ui_n _ _ (by omega)])
theorem Mdl_copies_c {d p q f t np nq : Nat} {F G0 : Nat → Int} {h0 : g_H} {Q : g_Po} (hp : h0[p]? = some (.inl (0, np, fun i => I (F i)))) (hq : h0[q]? = some (.inl (0, nq, fun i => I (G0 i)))) (hpq : p ≠ q) (h1 : f + 352 ≤ np) (h2 : t + 352 ≤ nq) (h3 : np ≤ 10000) (h4 : nq ≤ 10000)
    (hQ : ∀ (h' : g_H) (G' : Nat → Int), chg q (q + 1) h0 h' → h'[q]? = some (.inl (0, nq, fun i => I (G' i))) → (∀ k, k < 352 → G' (t + k) = F (f + k)) → (∀ j, j < t ∨ t + 352 ≤ j → G' j = G0 j) → Q none h') : Call Model_copies d 0 0 [.ref p, .int (I (f : Int)), .ref q, .int (I (t : Int))] h0 Q := by
  have loop : ∀ (m k : Nat) (h : g_H) (G' : Nat → Int), k + m = 352 → chg q (q + 1) h0 h → h[q]? = some (.inl (0, nq, fun i => I (G' i))) → (∀ i, i < k → G' (t + i) = F (f + i)) → (∀ j, j < t ∨ t + 352 ≤ j → G' j = G0 j) → G Model_copies d 0 0 0 0 3 [some (.ref p), some (.int (I (f : Int))), some (.ref q), some (.int (I (t : Int))), some (.int (I (k : Int)))] [] h Q := by
    intro m
    induction m with
    | zero =>
      intro k h G' hk hc hg h5 h6
      obtain rfl : k = 352 := by omega
      refine B_Model_copies_3 ?_
      simp only [wp_cons, wp_nil, List.getElem?_cons_zero, List.getElem?_cons_succ, List.set_cons_zero, List.set_cons_succ, s_iload, ldI_s, s_sipush, s_if_icmp_ge, p2_s, true_and, and_true, Nat.le_refl, true_implies, forall_const, not_false_eq_true, false_implies, not_true_eq_false, reduceCtorEq, tl_s, tl_n, rf_s, List.cons_append, List.nil_append, true_or, or_true]
      refine b_le (by omega) (by omega) (fun cc => ?_) (fun cc => absurd cc (by omega))
      refine B_Model_copies_29 ?_
      simp only [wp_cons, wp_nil, List.getElem?_cons_zero, List.getElem?_cons_succ, List.set_cons_zero, List.set_cons_succ, s_return_, rt_Model_copies, true_and, and_true, Nat.le_refl, true_implies, forall_const, not_false_eq_true, false_implies, not_true_eq_false, reduceCtorEq, tl_s, tl_n, rf_s, List.cons_append, List.nil_append, true_or, or_true]
      exact hQ h G' hc hg h5 h6
    | succ m ih =>
      intro k h G' hk hc hg h5 h6
      have hp1 := (hc.at (a := p) (by omega)).trans hp
      refine B_Model_copies_3 ?_
      simp only [wp_cons, wp_nil, List.getElem?_cons_zero, List.getElem?_cons_succ, List.set_cons_zero, List.set_cons_succ, s_iload, ldI_s, s_sipush, s_if_icmp_ge, p2_s, true_and, and_true, Nat.le_refl, true_implies, forall_const, not_false_eq_true, false_implies, not_true_eq_false, reduceCtorEq, tl_s, tl_n, rf_s, List.cons_append, List.nil_append, true_or, or_true, hp1, hg, ex_ie (x := (t : Int) + k) (i := t + k) (n := nq) (by omega) (by omega), ex_ie (x := (f : Int) + k) (i := f + k) (n := np) (by omega) (by omega), upd_ui]
      refine b_le (by omega) (by omega) (fun cc => absurd cc (by omega)) (fun cc => ?_)
      refine B_Model_copies_11 ?_
      simp only [wp_cons, wp_nil, List.getElem?_cons_zero, List.getElem?_cons_succ, List.set_cons_zero, List.set_cons_succ, s_aload_n2, ldA_r, ldA_n, s_iload_n3, ldI_s, s_iload, s_iadd, p2_s, I_add, s_aload_n0, s_iload_n1, s_iaload, iR_s, ia_s, s_iastore, iiR_s, s_iinc, s1_0, s1_s, kx_i, kx_r, kx_n, kx_l, kx_0, s_goto, true_and, and_true, Nat.le_refl, true_implies, forall_const, not_false_eq_true, false_implies, not_true_eq_false, reduceCtorEq, tl_s, tl_n, rf_s, List.cons_append, List.nil_append, true_or, or_true, hp1, hg, ex_ie (x := (t : Int) + k) (i := t + k) (n := nq) (by omega) (by omega), ex_ie (x := (f : Int) + k) (i := f + k) (n := np) (by omega) (by omega), upd_ui]
      refine ih (k + 1) _ (ui G' (t + k) (F (f + k))) (by omega) (hc.tr (chg.set _ (by omega))) (h_at _ hg) (fun i hi => ?_) (fun j hj => by rw [ui_n _ _ (by omega), h6 j hj])
      by_cases e : i = k
      · rw [e, ui_s]
      · rw [ui_n _ _ (by omega), h5 i (by omega)]
  refine Call.intro (by rfl) (Nat.le_of_ble_eq_true rfl) ?_
  refine G.eqL (L := [some (.ref _), some (.int _), some (.ref _), some (.int _), none]) rfl ?_
  refine B_Model_copies_0 ?_
  simp only [wp_cons, wp_nil, List.getElem?_cons_zero, List.getElem?_cons_succ, List.set_cons_zero, List.set_cons_succ, s_iconst, s_istore, p1_s, s1_0, s1_s, kx_i, kx_r, kx_n, kx_l, kx_0, true_and, and_true, Nat.le_refl, true_implies, forall_const, not_false_eq_true, false_implies, not_true_eq_false, reduceCtorEq, tl_s, tl_n, rf_s, List.cons_append, List.nil_append, true_or, or_true]
  exact loop 352 0 h0 G0 (by omega) chg.rf hq (fun i hi => absurd hi (by omega)) (fun j _ => rfl)
