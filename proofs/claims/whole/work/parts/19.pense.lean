/-! ===== the class's methods: the forecast of a weld, text, undo ===== -/
theorem chg.sy {lo hi : Nat} {h h' : g_H} (c : chg lo hi h h') : chg lo hi h' h := ⟨c.1.symm, fun b hb => (c.2 b hb).symm⟩
theorem Pens_ifw_c {d P : Nat} (hd : 9 ≤ d) {W : Wd} {r : Int} {h : g_H} {Q : g_Po} (w : wfW W) (hp : pens h P W) (hr : i32 r) (hQ : PQ P h Q (sp_ifw W r)) : Call Pens_ifWelded d 0 0 [.ref P, .int (I r)] h Q := by
  have d1 : 1 ≤ d := by omega
  obtain ⟨⟨Ss, pn⟩, Hs, T, l⟩ := W
  obtain ⟨σ, hp⟩ := hp
  obtain ⟨p0, p1, p2, p3, p4, p5, p6, p7⟩ := hp.g
  unfold sp_ifw at hQ
  dsimp only at hQ
  refine Call.intro (by rfl) (Nat.le_of_ble_eq_true rfl) ?_
  refine G.eqL (L := [some (.ref _), some (.int _)]) rfl ?_
  by_cases c1 : 1 ≤ r ∧ r ≤ 999
  · rw [if_neg (fun q => q c1)] at hQ
    have w2 := (wit_ok _ _ _ w.g.1 (weldF_ok (r := r) w.g.1)).1
    obtain ⟨σ2, S2, n2, t2⟩ := id p2
    refine B_Pens_ifWelded_0 ?_
    simp only [wp_cons, wp_nil, List.getElem?_cons_zero, List.getElem?_cons_succ, List.set_cons_zero, List.set_cons_succ, s_iload_n1, ldI_s, s_iconst, s_if_icmp_lt, p2_s, true_and, and_true, Nat.le_refl, true_implies, forall_const, not_false_eq_true, false_implies, not_true_eq_false, reduceCtorEq, tl_s, tl_n, rf_s, List.cons_append, List.nil_append, true_or, or_true, p0, p1.c, t2.c]
    refine b_lt (by omega) (by omega) (fun cc => absurd cc (by omega)) (fun cc => ?_)
    refine B_Pens_ifWelded_5 ?_
    simp only [wp_cons, wp_nil, List.getElem?_cons_zero, List.getElem?_cons_succ, List.set_cons_zero, List.set_cons_succ, s_iload_n1, ldI_s, s_sipush, s_if_icmp_le, p2_s, true_and, and_true, Nat.le_refl, true_implies, forall_const, not_false_eq_true, false_implies, not_true_eq_false, reduceCtorEq, tl_s, tl_n, rf_s, List.cons_append, List.nil_append, true_or, or_true, p0, p1.c, t2.c]
    refine b_le (by omega) (by omega) (fun cc => ?_) (fun cc => absurd cc (by omega))
    refine B_Pens_ifWelded_15 ?_
    simp only [wp_cons, wp_nil, List.getElem?_cons_zero, List.getElem?_cons_succ, List.set_cons_zero, List.set_cons_succ, s_aload_n0, ldA_r, ldA_n, s_getfield, pR_s, ob_s, gt_s, s_invokevirtual, rc_s, List.drop_succ_cons, List.drop_zero, List.take_succ_cons, List.take_zero, List.reverse_cons, List.reverse_nil, List.nil_append, List.cons_append, List.length_cons, List.length_nil, d1, Int.reduceToNat, Nat.reduceAdd, Nat.reduceLeDiff, true_and, and_true, Nat.le_refl, true_implies, forall_const, not_false_eq_true, false_implies, not_true_eq_false, reduceCtorEq, tl_s, tl_n, rf_s, true_or, or_true, p0, p1.c, t2.c]
    refine Drawing_copyFrom_c (by omega) p2 ⟨σ, p1⟩ (by omega) (fun h1 c1' b1 => ?_)
    have hp1 := hp.tr c1' b1.x
    obtain ⟨p0, p1, p2, p3, p4, p5, p6, p7⟩ := hp1.g
    obtain ⟨x6, y6⟩ := p6.c
    refine B_Pens_ifWelded_26 ?_
    simp only [wp_cons, wp_nil, List.getElem?_cons_zero, List.getElem?_cons_succ, List.set_cons_zero, List.set_cons_succ, s_aload_n0, ldA_r, ldA_n, s_getfield, pR_s, ob_s, gt_s, s_iload_n1, ldI_s, s_invokevirtual, rc_s, List.drop_succ_cons, List.drop_zero, List.take_succ_cons, List.take_zero, List.reverse_cons, List.reverse_nil, List.nil_append, List.cons_append, List.length_cons, List.length_nil, d1, Int.reduceToNat, Nat.reduceAdd, Nat.reduceLeDiff, true_and, and_true, Nat.le_refl, true_implies, forall_const, not_false_eq_true, false_implies, not_true_eq_false, reduceCtorEq, tl_s, tl_n, rf_s, true_or, or_true, p0, p1.c, y6]
    refine Wld_ends_c (by omega) c1 w.g.1 (by omega) b1 p6 (fun h2 h3 c2' c3' b3 x3 => ?_)
    have hp2 := hp1.we c2' (x3.kp c3'.sy (by omega))
    have hp3 := hp2.tr c3' b3.x
    obtain ⟨p0, p1, p2, p3, p4, p5, p6, p7⟩ := hp3.g
    refine B_Pens_ifWelded_38 ?_
    simp only [wp_cons, wp_nil, List.getElem?_cons_zero, List.getElem?_cons_succ, List.set_cons_zero, List.set_cons_succ, s_pop, p1v_i, p1v_r, s_aload_n0, ldA_r, ldA_n, s_getfield, pR_s, ob_s, gt_s, s_invokestatic, rc_s, List.drop_succ_cons, List.drop_zero, List.take_succ_cons, List.take_zero, List.reverse_cons, List.reverse_nil, List.nil_append, List.cons_append, List.length_cons, List.length_nil, Nat.reduceEqDiff, reduceIte, p1_s, p2_s, l1_s, d1, Int.reduceToNat, Nat.reduceAdd, Nat.reduceLeDiff, true_and, and_true, Nat.le_refl, true_implies, forall_const, not_false_eq_true, false_implies, not_true_eq_false, reduceCtorEq, tl_s, tl_n, rf_s, true_or, or_true, p0, p1.c]
    refine Jn_ends_c (by omega) w2 b3 (fun h4 c4' b4 => ?_)
    have hp4 := hp3.tr c4' b4.x
    obtain ⟨p0, p1, p2, p3, p4, p5, p6, p7⟩ := hp4.g
    obtain ⟨σ4, b4⟩ := b4
    refine B_Pens_ifWelded_46 ?_
    simp only [wp_cons, wp_nil, List.getElem?_cons_zero, List.getElem?_cons_succ, List.set_cons_zero, List.set_cons_succ, s_aload_n0, ldA_r, ldA_n, s_getfield, pR_s, ob_s, gt_s, s_ireturn, p1_s, rI_i, rI_z, rI_c, z_01, z_11, rt_Pens_ifWelded, true_and, and_true, Nat.le_refl, true_implies, forall_const, not_false_eq_true, false_implies, not_true_eq_false, reduceCtorEq, tl_s, tl_n, rf_s, List.cons_append, List.nil_append, true_or, or_true, p0, b4.c]
    exact hQ h4 ((((c1'.wd (by omega) (by omega)).tr (c2'.wd (by omega) (by omega))).tr (c3'.wd (by omega) (by omega))).tr (c4'.wd (by omega) (by omega))) ⟨σ, hp4⟩
  · rw [if_pos c1] at hQ
    by_cases c3 : r < 1
    · refine B_Pens_ifWelded_0 ?_
      simp only [wp_cons, wp_nil, List.getElem?_cons_zero, List.getElem?_cons_succ, List.set_cons_zero, List.set_cons_succ, s_iload_n1, ldI_s, s_iconst, s_if_icmp_lt, p2_s, true_and, and_true, Nat.le_refl, true_implies, forall_const, not_false_eq_true, false_implies, not_true_eq_false, reduceCtorEq, tl_s, tl_n, rf_s, List.cons_append, List.nil_append, true_or, or_true, p0, p1.c]
      refine b_lt (by omega) (by omega) (fun cc => ?_) (fun cc => absurd cc (by omega))
      refine B_Pens_ifWelded_12 ?_
      simp only [wp_cons, wp_nil, List.getElem?_cons_zero, List.getElem?_cons_succ, List.set_cons_zero, List.set_cons_succ, s_bipush, s_ireturn, p1_s, rI_i, rI_z, rI_c, z_01, z_11, rt_Pens_ifWelded, true_and, and_true, Nat.le_refl, true_implies, forall_const, not_false_eq_true, false_implies, not_true_eq_false, reduceCtorEq, tl_s, tl_n, rf_s, List.cons_append, List.nil_append, true_or, or_true, p0, p1.c]
      exact hQ h chg.rf ⟨σ, hp⟩
    · refine B_Pens_ifWelded_0 ?_
      simp only [wp_cons, wp_nil, List.getElem?_cons_zero, List.getElem?_cons_succ, List.set_cons_zero, List.set_cons_succ, s_iload_n1, ldI_s, s_iconst, s_if_icmp_lt, p2_s, true_and, and_true, Nat.le_refl, true_implies, forall_const, not_false_eq_true, false_implies, not_true_eq_false, reduceCtorEq, tl_s, tl_n, rf_s, List.cons_append, List.nil_append, true_or, or_true, p0, p1.c]
      refine b_lt (by omega) (by omega) (fun cc => absurd cc (by omega)) (fun cc => ?_)
      refine B_Pens_ifWelded_5 ?_
      simp only [wp_cons, wp_nil, List.getElem?_cons_zero, List.getElem?_cons_succ, List.set_cons_zero, List.set_cons_succ, s_iload_n1, ldI_s, s_sipush, s_if_icmp_le, p2_s, true_and, and_true, Nat.le_refl, true_implies, forall_const, not_false_eq_true, false_implies, not_true_eq_false, reduceCtorEq, tl_s, tl_n, rf_s, List.cons_append, List.nil_append, true_or, or_true, p0, p1.c]
      refine b_le (by omega) (by omega) (fun cc => absurd cc (by omega)) (fun cc => ?_)
      refine B_Pens_ifWelded_12 ?_
      simp only [wp_cons, wp_nil, List.getElem?_cons_zero, List.getElem?_cons_succ, List.set_cons_zero, List.set_cons_succ, s_bipush, s_ireturn, p1_s, rI_i, rI_z, rI_c, z_01, z_11, rt_Pens_ifWelded, true_and, and_true, Nat.le_refl, true_implies, forall_const, not_false_eq_true, false_implies, not_true_eq_false, reduceCtorEq, tl_s, tl_n, rf_s, List.cons_append, List.nil_append, true_or, or_true, p0, p1.c]
      exact hQ h chg.rf ⟨σ, hp⟩
theorem txt.len {h : g_H} {a : Nat} {T : List Int} (q : txt h a T) : T.length ≤ 80 := q.1
theorem txt.o {h : g_H} {a : Nat} {T : List Int} (q : txt h a T) : h[a]? = some (.inr (.inr (3, [.ref (a + 1), .ref (a + 2), .int (I (T.length : Int))]))) := q.2.1
theorem txt.clr {h : g_H} {a : Nat} {T : List Int} (q : txt h a T) : txt (h.set a (.inr (.inr (3, [.ref (a + 1), .ref (a + 2), .int (I 0)])))) a [] := by
  obtain ⟨q1, q2, ⟨f, q3, q4⟩, q5⟩ := q
  exact ⟨by simp, h_at _ q2, ⟨f, (h_ne _ (by omega)).trans q3, fun i hi => absurd hi (by simp)⟩, q5.kp (chg.set (lo := a) (hi := a + 1) _ (by omega)) (by omega)⟩
theorem Pens_type_c {d P : Nat} (hd : 9 ≤ d) {W : Wd} {c : Int} {h : g_H} {Q : g_Po} (hp : pens h P W) (hc : i32 c) (hQ : PQ P h Q (sp_type W c)) : Call Pens_type d 0 0 [.ref P, .int (I c)] h Q := by
  have d1 : 1 ≤ d := by omega
  obtain ⟨⟨Ss, pn⟩, Hs, T, l⟩ := W
  obtain ⟨σ, hp⟩ := hp
  obtain ⟨p0, p1, p2, p3, p4, p5, p6, p7⟩ := hp.g
  have hl := p7.len
  unfold sp_type at hQ
  dsimp only at hQ
  refine Call.intro (by rfl) (Nat.le_of_ble_eq_true rfl) ?_
  refine G.eqL (L := [some (.ref _), some (.int _)]) rfl ?_
  by_cases c1 : 33 ≤ c ∧ c ≤ 126
  · rw [if_neg (fun q => q c1)] at hQ
    by_cases c2 : 80 ≤ T.length
    · rw [if_pos c2] at hQ
      refine B_Pens_type_0 ?_
      simp only [wp_cons, wp_nil, List.getElem?_cons_zero, List.getElem?_cons_succ, List.set_cons_zero, List.set_cons_succ, s_iload_n1, ldI_s, s_bipush, s_if_icmp_lt, p2_s, true_and, and_true, Nat.le_refl, true_implies, forall_const, not_false_eq_true, false_implies, not_true_eq_false, reduceCtorEq, tl_s, tl_n, rf_s, List.cons_append, List.nil_append, true_or, or_true, p0, p7.o]
      refine b_lt (by omega) (by omega) (fun cc => absurd cc (by omega)) (fun cc => ?_)
      refine B_Pens_type_6 ?_
      simp only [wp_cons, wp_nil, List.getElem?_cons_zero, List.getElem?_cons_succ, List.set_cons_zero, List.set_cons_succ, s_iload_n1, ldI_s, s_bipush, s_if_icmp_le, p2_s, true_and, and_true, Nat.le_refl, true_implies, forall_const, not_false_eq_true, false_implies, not_true_eq_false, reduceCtorEq, tl_s, tl_n, rf_s, List.cons_append, List.nil_append, true_or, or_true, p0, p7.o]
      refine b_le (by omega) (by omega) (fun cc => ?_) (fun cc => absurd cc (by omega))
      refine B_Pens_type_15 ?_
      simp only [wp_cons, wp_nil, List.getElem?_cons_zero, List.getElem?_cons_succ, List.set_cons_zero, List.set_cons_succ, s_aload_n0, ldA_r, ldA_n, s_getfield, pR_s, ob_s, gt_s, s_bipush, s_if_icmp_lt, p2_s, true_and, and_true, Nat.le_refl, true_implies, forall_const, not_false_eq_true, false_implies, not_true_eq_false, reduceCtorEq, tl_s, tl_n, rf_s, List.cons_append, List.nil_append, true_or, or_true, p0, p7.o]
      refine b_lt (by omega) (by omega) (fun cc => absurd cc (by omega)) (fun cc => ?_)
      refine B_Pens_type_27 ?_
      simp only [wp_cons, wp_nil, List.getElem?_cons_zero, List.getElem?_cons_succ, List.set_cons_zero, List.set_cons_succ, s_bipush, s_ireturn, p1_s, rI_i, rI_z, rI_c, z_01, z_11, rt_Pens_type, true_and, and_true, Nat.le_refl, true_implies, forall_const, not_false_eq_true, false_implies, not_true_eq_false, reduceCtorEq, tl_s, tl_n, rf_s, List.cons_append, List.nil_append, true_or, or_true, p0, p7.o]
      exact hQ h chg.rf ⟨σ, hp⟩
    · rw [if_neg c2] at hQ
      refine B_Pens_type_0 ?_
      simp only [wp_cons, wp_nil, List.getElem?_cons_zero, List.getElem?_cons_succ, List.set_cons_zero, List.set_cons_succ, s_iload_n1, ldI_s, s_bipush, s_if_icmp_lt, p2_s, true_and, and_true, Nat.le_refl, true_implies, forall_const, not_false_eq_true, false_implies, not_true_eq_false, reduceCtorEq, tl_s, tl_n, rf_s, List.cons_append, List.nil_append, true_or, or_true, p0, p7.o, ch_okI (c := c) (by omega)]
      refine b_lt (by omega) (by omega) (fun cc => absurd cc (by omega)) (fun cc => ?_)
      refine B_Pens_type_6 ?_
      simp only [wp_cons, wp_nil, List.getElem?_cons_zero, List.getElem?_cons_succ, List.set_cons_zero, List.set_cons_succ, s_iload_n1, ldI_s, s_bipush, s_if_icmp_le, p2_s, true_and, and_true, Nat.le_refl, true_implies, forall_const, not_false_eq_true, false_implies, not_true_eq_false, reduceCtorEq, tl_s, tl_n, rf_s, List.cons_append, List.nil_append, true_or, or_true, p0, p7.o, ch_okI (c := c) (by omega)]
      refine b_le (by omega) (by omega) (fun cc => ?_) (fun cc => absurd cc (by omega))
      refine B_Pens_type_15 ?_
      simp only [wp_cons, wp_nil, List.getElem?_cons_zero, List.getElem?_cons_succ, List.set_cons_zero, List.set_cons_succ, s_aload_n0, ldA_r, ldA_n, s_getfield, pR_s, ob_s, gt_s, s_bipush, s_if_icmp_lt, p2_s, true_and, and_true, Nat.le_refl, true_implies, forall_const, not_false_eq_true, false_implies, not_true_eq_false, reduceCtorEq, tl_s, tl_n, rf_s, List.cons_append, List.nil_append, true_or, or_true, p0, p7.o, ch_okI (c := c) (by omega)]
      refine b_lt (by omega) (by omega) (fun cc => ?_) (fun cc => absurd cc (by omega))
      refine B_Pens_type_30 ?_
      simp only [wp_cons, wp_nil, List.getElem?_cons_zero, List.getElem?_cons_succ, List.set_cons_zero, List.set_cons_succ, s_aload_n0, ldA_r, ldA_n, s_getfield, pR_s, ob_s, gt_s, s_iload_n1, ldI_s, s_i2c, p1_s, s_invokevirtual, rc_s, List.drop_succ_cons, List.drop_zero, List.take_succ_cons, List.take_zero, List.reverse_cons, List.reverse_nil, List.nil_append, List.cons_append, List.length_cons, List.length_nil, d1, Int.reduceToNat, Nat.reduceAdd, Nat.reduceLeDiff, true_and, and_true, Nat.le_refl, true_implies, forall_const, not_false_eq_true, false_implies, not_true_eq_false, reduceCtorEq, tl_s, tl_n, rf_s, true_or, or_true, p0, p7.o, ch_okI (c := c) (by omega)]
      refine Txt_add_c p7 (by omega) (by omega) (fun h1 c1' b1 => ?_)
      have hp1 := hp.tx c1' b1
      obtain ⟨p0, p1, p2, p3, p4, p5, p6, p7⟩ := hp1.g
      have el : ((T ++ [c]).length : Int) = T.length + 1 := by simp
      refine B_Pens_type_39 ?_
      simp only [wp_cons, wp_nil, List.getElem?_cons_zero, List.getElem?_cons_succ, List.set_cons_zero, List.set_cons_succ, s_aload_n0, ldA_r, ldA_n, s_getfield, pR_s, ob_s, gt_s, s_ireturn, p1_s, rI_i, rI_z, rI_c, z_01, z_11, rt_Pens_type, true_and, and_true, Nat.le_refl, true_implies, forall_const, not_false_eq_true, false_implies, not_true_eq_false, reduceCtorEq, tl_s, tl_n, rf_s, List.cons_append, List.nil_append, true_or, or_true, p0, p7.o, el]
      exact hQ h1 (c1'.wd (by omega) (by omega)) ⟨σ, hp1⟩
  · rw [if_pos c1] at hQ
    by_cases c3 : c < 33
    · refine B_Pens_type_0 ?_
      simp only [wp_cons, wp_nil, List.getElem?_cons_zero, List.getElem?_cons_succ, List.set_cons_zero, List.set_cons_succ, s_iload_n1, ldI_s, s_bipush, s_if_icmp_lt, p2_s, true_and, and_true, Nat.le_refl, true_implies, forall_const, not_false_eq_true, false_implies, not_true_eq_false, reduceCtorEq, tl_s, tl_n, rf_s, List.cons_append, List.nil_append, true_or, or_true, p0, p7.o]
      refine b_lt (by omega) (by omega) (fun cc => ?_) (fun cc => absurd cc (by omega))
      refine B_Pens_type_12 ?_
      simp only [wp_cons, wp_nil, List.getElem?_cons_zero, List.getElem?_cons_succ, List.set_cons_zero, List.set_cons_succ, s_bipush, s_ireturn, p1_s, rI_i, rI_z, rI_c, z_01, z_11, rt_Pens_type, true_and, and_true, Nat.le_refl, true_implies, forall_const, not_false_eq_true, false_implies, not_true_eq_false, reduceCtorEq, tl_s, tl_n, rf_s, List.cons_append, List.nil_append, true_or, or_true, p0, p7.o]
      exact hQ h chg.rf ⟨σ, hp⟩
    · refine B_Pens_type_0 ?_
      simp only [wp_cons, wp_nil, List.getElem?_cons_zero, List.getElem?_cons_succ, List.set_cons_zero, List.set_cons_succ, s_iload_n1, ldI_s, s_bipush, s_if_icmp_lt, p2_s, true_and, and_true, Nat.le_refl, true_implies, forall_const, not_false_eq_true, false_implies, not_true_eq_false, reduceCtorEq, tl_s, tl_n, rf_s, List.cons_append, List.nil_append, true_or, or_true, p0, p7.o]
      refine b_lt (by omega) (by omega) (fun cc => absurd cc (by omega)) (fun cc => ?_)
      refine B_Pens_type_6 ?_
      simp only [wp_cons, wp_nil, List.getElem?_cons_zero, List.getElem?_cons_succ, List.set_cons_zero, List.set_cons_succ, s_iload_n1, ldI_s, s_bipush, s_if_icmp_le, p2_s, true_and, and_true, Nat.le_refl, true_implies, forall_const, not_false_eq_true, false_implies, not_true_eq_false, reduceCtorEq, tl_s, tl_n, rf_s, List.cons_append, List.nil_append, true_or, or_true, p0, p7.o]
      refine b_le (by omega) (by omega) (fun cc => absurd cc (by omega)) (fun cc => ?_)
      refine B_Pens_type_12 ?_
      simp only [wp_cons, wp_nil, List.getElem?_cons_zero, List.getElem?_cons_succ, List.set_cons_zero, List.set_cons_succ, s_bipush, s_ireturn, p1_s, rI_i, rI_z, rI_c, z_01, z_11, rt_Pens_type, true_and, and_true, Nat.le_refl, true_implies, forall_const, not_false_eq_true, false_implies, not_true_eq_false, reduceCtorEq, tl_s, tl_n, rf_s, List.cons_append, List.nil_append, true_or, or_true, p0, p7.o]
      exact hQ h chg.rf ⟨σ, hp⟩
theorem Pens_clear_c {d P : Nat} {W : Wd} {h : g_H} {Q : g_Po} (hp : pens h P W) (hQ : PQ P h Q (sp_clear W)) : Call Pens_clearText d 0 0 [.ref P] h Q := by
  obtain ⟨⟨Ss, pn⟩, Hs, T, l⟩ := W
  obtain ⟨σ, hp⟩ := hp
  obtain ⟨p0, p1, p2, p3, p4, p5, p6, p7⟩ := hp.g
  have hl := p7.len
  have hp1 := hp.tx (chg.set (lo := P + 204) (hi := P + 208) _ (by omega)) p7.clr
  refine Call.intro (by rfl) (Nat.le_of_ble_eq_true rfl) ?_
  refine G.eqL (L := [some (.ref _), none]) rfl ?_
  refine B_Pens_clearText_0 ?_
  simp only [wp_cons, wp_nil, List.getElem?_cons_zero, List.getElem?_cons_succ, List.set_cons_zero, List.set_cons_succ, s_aload_n0, ldA_r, ldA_n, s_getfield, pR_s, ob_s, gt_s, s_istore_n1, p1_s, s1_0, s1_s, kx_i, kx_r, kx_n, kx_l, kx_0, s_iconst, s_putfield, pv_i, pv_z, pv_r, pv_f, z_01, z_11, List.length_cons, List.length_nil, s_iload_n1, ldI_s, s_ireturn, rI_i, rI_z, rI_c, rt_Pens_clearText, true_and, and_true, Nat.le_refl, true_implies, forall_const, not_false_eq_true, false_implies, not_true_eq_false, reduceCtorEq, tl_s, tl_n, rf_s, List.cons_append, List.nil_append, true_or, or_true, p0, p7.o, Nat.reduceLT, Nat.reduceAdd]
  exact hQ _ (chg.set _ (by omega)) ⟨σ, hp1⟩
theorem Pens_syn_c {d P : Nat} (hd : 9 ≤ d) {W : Wd} {h : g_H} {Q : g_Po} (w : wfW W) (hp : pens h P W) (hQ : PQ P h Q (sp_syn W)) : Call Pens_syntaxError d 0 0 [.ref P] h Q := by
  have d1 : 1 ≤ d := by omega
  obtain ⟨⟨Ss, pn⟩, Hs, T, l⟩ := W
  obtain ⟨σ, hp⟩ := hp
  obtain ⟨p0, p1, p2, p3, p4, p5, p6, p7⟩ := hp.g
  refine Call.intro (by rfl) (Nat.le_of_ble_eq_true rfl) ?_
  refine G.eqL (L := [some (.ref _)]) rfl ?_
  refine B_Pens_syntaxError_0 ?_
  simp only [wp_cons, wp_nil, List.getElem?_cons_zero, List.getElem?_cons_succ, List.set_cons_zero, List.set_cons_succ, s_aload_n0, ldA_r, ldA_n, s_getfield, pR_s, ob_s, gt_s, s_invokevirtual, rc_s, List.drop_succ_cons, List.drop_zero, List.take_succ_cons, List.take_zero, List.reverse_cons, List.reverse_nil, List.nil_append, List.cons_append, List.length_cons, List.length_nil, d1, Int.reduceToNat, Nat.reduceAdd, Nat.reduceLeDiff, true_and, and_true, Nat.le_refl, true_implies, forall_const, not_false_eq_true, false_implies, not_true_eq_false, reduceCtorEq, tl_s, tl_n, rf_s, true_or, or_true, p0, p7.o]
  refine Txt_err_c (by omega) w.g.2.2.2.2 p7 ?_
  refine B_Pens_syntaxError_7 ?_
  simp only [wp_cons, wp_nil, List.getElem?_cons_zero, List.getElem?_cons_succ, List.set_cons_zero, List.set_cons_succ, s_ireturn, p1_s, rI_i, rI_z, rI_c, z_01, z_11, rt_Pens_syntaxError, true_and, and_true, Nat.le_refl, true_implies, forall_const, not_false_eq_true, false_implies, not_true_eq_false, reduceCtorEq, tl_s, tl_n, rf_s, List.cons_append, List.nil_append, true_or, or_true, p0, p7.o]
  exact hQ h chg.rf ⟨σ, hp⟩
theorem Pens_fail_c {d P : Nat} {s : Sta} {Hs : List Sta} {T : List Int} {l : Int × Int × Int} {σ : Nat → Nat} {a b c : Int} {h : g_H} {Q : g_Po} (hp : pns h P σ (s, Hs, T, l)) (hQ : ∀ h', chg P (P + 1) h h' → pns h' P σ (s, Hs, T, (a, b, c)) → Q (some (.int (I a))) h') : Call Pens_fail d 0 0 [.ref P, .int (I a), .int (I b), .int (I c)] h Q := by
  obtain ⟨p0, p1, p2, p3, p4, p5, p6, p7⟩ := hp
  have e1 := fun v => h_at v p0
  have e2 : ∀ v v' : g_C, ((h.set P v).set P v')[P]? = some v' := fun v v' => h_at v' (e1 v)
  refine Call.intro (by rfl) (Nat.le_of_ble_eq_true rfl) ?_
  refine G.eqL (L := [some (.ref _), some (.int _), some (.int _), some (.int _)]) rfl ?_
  refine B_Pens_fail_0 ?_
  simp only [wp_cons, wp_nil, List.getElem?_cons_zero, List.getElem?_cons_succ, List.set_cons_zero, List.set_cons_succ, s_aload_n0, ldA_r, ldA_n, s_iload_n1, ldI_s, s_putfield, pv_i, pv_z, pv_r, pv_f, ob_s, z_01, z_11, List.length_cons, List.length_nil, s_iload_n2, s_iload_n3, s_ireturn, p1_s, rI_i, rI_z, rI_c, rt_Pens_fail, true_and, and_true, Nat.le_refl, true_implies, forall_const, not_false_eq_true, false_implies, not_true_eq_false, reduceCtorEq, tl_s, tl_n, rf_s, List.cons_append, List.nil_append, true_or, or_true, p0, e1, e2, Nat.reduceLT, Nat.reduceAdd]
  have c1 : ∀ v v' v'' : g_C, chg P (P + 1) h (((h.set P v).set P v').set P v'') := fun v v' v'' => ((chg.set _ (by omega)).tr (chg.set _ (by omega))).tr (chg.set _ (by omega))
  exact hQ _ (c1 _ _ _) ⟨h_at _ (e2 _ _), p1.kp (c1 _ _ _) (by omega), p2.kp (c1 _ _ _) (by omega), p3.kp (c1 _ _ _) (by omega), p4.kp (c1 _ _ _) (by omega), p5.kp (c1 _ _ _) (by omega), p6.kp (c1 _ _ _) (by omega), p7.kp (c1 _ _ _) (by omega)⟩
theorem Pens_prob_c {d P : Nat} {W : Wd} {v : Int} {h : g_H} {Q : g_Po} (hp : pens h P W) (hv : i32 v) (hQ : PQ P h Q (sp_prob W v)) : Call Pens_problem d 0 0 [.ref P, .int (I v)] h Q := by
  obtain ⟨⟨Ss, pn⟩, Hs, T, l⟩ := W
  obtain ⟨σ, hp⟩ := hp
  obtain ⟨p0, p1, p2, p3, p4, p5, p6, p7⟩ := hp.g
  unfold sp_prob at hQ
  dsimp only at hQ
  refine Call.intro (by rfl) (Nat.le_of_ble_eq_true rfl) ?_
  refine G.eqL (L := [some (.ref _), some (.int _)]) rfl ?_
  refine B_Pens_problem_0 ?_
  simp only [wp_cons, wp_nil, List.getElem?_cons_zero, List.getElem?_cons_succ, List.set_cons_zero, List.set_cons_succ, s_iload_n1, ldI_s, s_tableswitch, p1_s, true_and, and_true, Nat.le_refl, true_implies, forall_const, not_false_eq_true, false_implies, not_true_eq_false, reduceCtorEq, tl_s, tl_n, rf_s, List.cons_append, List.nil_append, true_or, or_true, p0]
  rw [I_toInt hv]
  by_cases e0 : v = 0
  · rw [if_pos e0] at hQ
    refine sw_in 0 27 rfl (by omega) (by omega) (G.eqp (pc := 28) rfl ?_)
    refine B_Pens_problem_28 ?_
    simp only [wp_cons, wp_nil, List.getElem?_cons_zero, List.getElem?_cons_succ, List.set_cons_zero, List.set_cons_succ, s_aload_n0, ldA_r, ldA_n, s_getfield, pR_s, ob_s, gt_s, s_ireturn, p1_s, rI_i, rI_z, rI_c, z_01, z_11, rt_Pens_problem, true_and, and_true, Nat.le_refl, true_implies, forall_const, not_false_eq_true, false_implies, not_true_eq_false, reduceCtorEq, tl_s, tl_n, rf_s, List.cons_append, List.nil_append, true_or, or_true, p0]
    exact hQ h chg.rf ⟨σ, hp⟩
  rw [if_neg e0] at hQ
  by_cases e1 : v = 1
  · rw [if_pos e1] at hQ
    refine sw_in 1 32 rfl (by omega) (by omega) (G.eqp (pc := 33) rfl ?_)
    refine B_Pens_problem_33 ?_
    simp only [wp_cons, wp_nil, List.getElem?_cons_zero, List.getElem?_cons_succ, List.set_cons_zero, List.set_cons_succ, s_aload_n0, ldA_r, ldA_n, s_getfield, pR_s, ob_s, gt_s, s_ireturn, p1_s, rI_i, rI_z, rI_c, z_01, z_11, rt_Pens_problem, true_and, and_true, Nat.le_refl, true_implies, forall_const, not_false_eq_true, false_implies, not_true_eq_false, reduceCtorEq, tl_s, tl_n, rf_s, List.cons_append, List.nil_append, true_or, or_true, p0]
    exact hQ h chg.rf ⟨σ, hp⟩
  rw [if_neg e1] at hQ
  by_cases e2 : v = 2
  · rw [if_pos e2] at hQ
    refine sw_in 2 37 rfl (by omega) (by omega) (G.eqp (pc := 38) rfl ?_)
    refine B_Pens_problem_38 ?_
    simp only [wp_cons, wp_nil, List.getElem?_cons_zero, List.getElem?_cons_succ, List.set_cons_zero, List.set_cons_succ, s_aload_n0, ldA_r, ldA_n, s_getfield, pR_s, ob_s, gt_s, s_ireturn, p1_s, rI_i, rI_z, rI_c, z_01, z_11, rt_Pens_problem, true_and, and_true, Nat.le_refl, true_implies, forall_const, not_false_eq_true, false_implies, not_true_eq_false, reduceCtorEq, tl_s, tl_n, rf_s, List.cons_append, List.nil_append, true_or, or_true, p0]
    exact hQ h chg.rf ⟨σ, hp⟩
  rw [if_neg e2] at hQ
  refine sw_out (by omega) (G.eqp (pc := 43) rfl ?_)
  refine B_Pens_problem_43 ?_
  simp only [wp_cons, wp_nil, List.getElem?_cons_zero, List.getElem?_cons_succ, List.set_cons_zero, List.set_cons_succ, s_iconst, s_ireturn, p1_s, rI_i, rI_z, rI_c, z_01, z_11, rt_Pens_problem, true_and, and_true, Nat.le_refl, true_implies, forall_const, not_false_eq_true, false_implies, not_true_eq_false, reduceCtorEq, tl_s, tl_n, rf_s, List.cons_append, List.nil_append, true_or, or_true, p0]
  exact hQ h chg.rf ⟨σ, hp⟩
theorem Pens_undo_c {d P : Nat} (hd : 9 ≤ d) {W : Wd} {h : g_H} {Q : g_Po} (w : wfW W) (hp : pens h P W) (hQ : PQ P h Q (sp_undo W)) : Call Pens_undo d 0 0 [.ref P] h Q := by
  have d1 : 1 ≤ d := by omega
  obtain ⟨⟨Ss, pn⟩, Hs, T, l⟩ := W
  obtain ⟨σ, hp⟩ := hp
  obtain ⟨p0, p1, p2, p3, p4, p5, p6, p7⟩ := hp.g
  have h6 := w.g.2.2.1
  unfold sp_undo at hQ
  dsimp only at hQ
  refine Call.intro (by rfl) (Nat.le_of_ble_eq_true rfl) ?_
  refine G.eqL (L := [some (.ref _)]) rfl ?_
  by_cases c1 : Hs.length = 0
  · rw [if_pos c1] at hQ
    refine B_Pens_undo_0 ?_
    simp only [wp_cons, wp_nil, List.getElem?_cons_zero, List.getElem?_cons_succ, List.set_cons_zero, List.set_cons_succ, s_aload_n0, ldA_r, ldA_n, s_getfield, pR_s, ob_s, gt_s, s_ifCond_ne, p1_s, true_and, and_true, Nat.le_refl, true_implies, forall_const, not_false_eq_true, false_implies, not_true_eq_false, reduceCtorEq, tl_s, tl_n, rf_s, List.cons_append, List.nil_append, true_or, or_true, p0, p1.c, p4.c]
    refine b_ne (by omega) (by omega) (fun cc => absurd cc (by omega)) (fun cc => ?_)
    refine B_Pens_undo_10 ?_
    simp only [wp_cons, wp_nil, List.getElem?_cons_zero, List.getElem?_cons_succ, List.set_cons_zero, List.set_cons_succ, s_bipush, s_ireturn, p1_s, rI_i, rI_z, rI_c, z_01, z_11, rt_Pens_undo, true_and, and_true, Nat.le_refl, true_implies, forall_const, not_false_eq_true, false_implies, not_true_eq_false, reduceCtorEq, tl_s, tl_n, rf_s, List.cons_append, List.nil_append, true_or, or_true, p0, p1.c, p4.c]
    exact hQ h chg.rf ⟨σ, hp⟩
  · rw [if_neg c1] at hQ
    refine B_Pens_undo_0 ?_
    simp only [wp_cons, wp_nil, List.getElem?_cons_zero, List.getElem?_cons_succ, List.set_cons_zero, List.set_cons_succ, s_aload_n0, ldA_r, ldA_n, s_getfield, pR_s, ob_s, gt_s, s_ifCond_ne, p1_s, true_and, and_true, Nat.le_refl, true_implies, forall_const, not_false_eq_true, false_implies, not_true_eq_false, reduceCtorEq, tl_s, tl_n, rf_s, List.cons_append, List.nil_append, true_or, or_true, p0, p1.c, p4.c]
    refine b_ne (by omega) (by omega) (fun cc => ?_) (fun cc => absurd cc (by omega))
    refine B_Pens_undo_13 ?_
    simp only [wp_cons, wp_nil, List.getElem?_cons_zero, List.getElem?_cons_succ, List.set_cons_zero, List.set_cons_succ, s_aload_n0, ldA_r, ldA_n, s_getfield, pR_s, ob_s, gt_s, s_invokevirtual, rc_s, List.drop_succ_cons, List.drop_zero, List.take_succ_cons, List.take_zero, List.reverse_cons, List.reverse_nil, List.nil_append, List.cons_append, List.length_cons, List.length_nil, d1, Int.reduceToNat, Nat.reduceAdd, Nat.reduceLeDiff, true_and, and_true, Nat.le_refl, true_implies, forall_const, not_false_eq_true, false_implies, not_true_eq_false, reduceCtorEq, tl_s, tl_n, rf_s, true_or, or_true, p0, p1.c, p4.c]
    refine History_restore_c (by omega) (by omega) p4 ⟨_, _, _, p1⟩ (by omega) (fun h1 h2 c1' c2' b1 b2 => ?_)
    obtain ⟨σ1, b1⟩ := b1.kp c2'.sy (by omega)
    have hp1 := hp.dr (s' := hg Hs (Hs.length - 1)) (c1'.wd (by omega) (by omega)) b1
    have hp2 := hp1.sv (c2'.wd (by omega) (by omega)) b2
    obtain ⟨p0, p1, p2, p3, p4, p5, p6, p7⟩ := hp2
    have el : (Hs.dropLast.length : Int) = Hs.length - 1 := by rw [List.length_dropLast]; omega
    refine B_Pens_undo_24 ?_
    simp only [wp_cons, wp_nil, List.getElem?_cons_zero, List.getElem?_cons_succ, List.set_cons_zero, List.set_cons_succ, s_aload_n0, ldA_r, ldA_n, s_getfield, pR_s, ob_s, gt_s, s_ireturn, p1_s, rI_i, rI_z, rI_c, z_01, z_11, rt_Pens_undo, true_and, and_true, Nat.le_refl, true_implies, forall_const, not_false_eq_true, false_implies, not_true_eq_false, reduceCtorEq, tl_s, tl_n, rf_s, List.cons_append, List.nil_append, true_or, or_true, p0, p4.c, el]
    exact hQ h2 ((c1'.wd (by omega) (by omega)).tr (c2'.wd (by omega) (by omega))) ⟨σ1, p0, p1, p2, p3, p4, p5, p6, p7⟩
