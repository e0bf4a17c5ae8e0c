/-! ===== the law: its other acts; a turn ===== -/
theorem cd_same : g_cd Law_same := by unfold g_cd; rfl
theorem cd_simplified : g_cd Law_simplified := by unfold g_cd; rfl
theorem cd_welded : g_cd Law_welded := by unfold g_cd; rfl
theorem cd_changed : g_cd Law_changed := by unfold g_cd; rfl
theorem sp_of_2 {W : Wd} {s : Nat} (hs : s < W.1.1.length) : (sp_of W s 2).1 = lenS (sg W.1.1 s) := (sp_of_lit hs).2.1
theorem Law_sum1 {W : Wd} {i cs ss : Nat} {li la kd : Int} {x y : Int32} {h : g_H} {Q : g_Po} (w : wfW W) (hp : pens h 0 W) (q1 : cs ≤ 600000) (q2 : ss ≤ 7302250) {x12 : Option Value} (hO : ∀ a b : Int, a = sm (fun j => nP (sg W.1.1 j)) W.1.1.length → b = sm (fun j => lenS (sg W.1.1 j)) W.1.1.length → G Law_law 11 600000 7302250 cs ss 478 [some (.retAddr 0), some (.ref 0), some (.int (I li)), some (.int (I la)), some (.int (I (i : Int))), some (.int x), some (.int y), some (.int (I kd)), some (.int (I (W.1.1.length : Int))), some (.int (I a)), some (.int (I b)), some (.int (I (W.1.1.length : Int))), x12] [] h Q) : ∀ (m k : Nat) (a b : Int), k + m = W.1.1.length → a = sm (fun j => nP (sg W.1.1 j)) k → b = sm (fun j => lenS (sg W.1.1 j)) k → G Law_law 11 600000 7302250 cs ss 441 [some (.retAddr 0), some (.ref 0), some (.int (I li)), some (.int (I la)), some (.int (I (i : Int))), some (.int x), some (.int y), some (.int (I kd)), some (.int (I (W.1.1.length : Int))), some (.int (I a)), some (.int (I b)), some (.int (I (k : Int))), x12] [] h Q := by
  have d1 : 1 ≤ 11 := by omega
  have wl : W.1.1.length ≤ 10 := w.1.1.1
  obtain ⟨fs, hc⟩ := hp.at6
  intro m
  induction m with
  | zero =>
    intro k a b hk ha hb
    obtain rfl : k = W.1.1.length := by omega
    refine B_Law_law_441 ?_
    simp only [wp_cons, wp_nil, List.getElem?_cons_zero, List.getElem?_cons_succ, List.set_cons_zero, List.set_cons_succ, s_iload, ldI_s, s_if_icmp_ge, p2_s, true_and, and_true, Nat.le_refl, true_implies, forall_const, not_false_eq_true, false_implies, not_true_eq_false, reduceCtorEq, tl_s, tl_n, rf_s, List.cons_append, List.nil_append, true_or, or_true]
    refine b_le (by omega) (by omega) (fun cc => ?_) (fun cc => absurd cc (by omega))
    exact hO a b ha hb
  | succ m ih =>
    intro k a b hk ha hb
    have hs : k < W.1.1.length := by omega
    have em : (k : Int) + 1 = ((k + 1 : Nat) : Int) := by omega
    refine B_Law_law_441 ?_
    simp only [wp_cons, wp_nil, List.getElem?_cons_zero, List.getElem?_cons_succ, List.set_cons_zero, List.set_cons_succ, s_iload, ldI_s, s_if_icmp_ge, p2_s, true_and, and_true, Nat.le_refl, true_implies, forall_const, not_false_eq_true, false_implies, not_true_eq_false, reduceCtorEq, tl_s, tl_n, rf_s, List.cons_append, List.nil_append, true_or, or_true, hc, q1, q2]
    refine b_le (by omega) (by omega) (fun cc => absurd cc (by omega)) (fun cc => ?_)
    refine B_Law_law_448 ?_
    simp only [wp_cons, wp_nil, List.getElem?_cons_zero, List.getElem?_cons_succ, List.set_cons_zero, List.set_cons_succ, s_iload, ldI_s, s_aload_n1, ldA_r, ldA_n, ldA_s, s_iconst, s_invokevirtual, rc_s, ob_s, List.drop_succ_cons, List.drop_zero, List.take_succ_cons, List.take_zero, List.reverse_cons, List.reverse_nil, List.nil_append, List.cons_append, List.length_cons, List.length_nil, d1, Int.reduceToNat, Nat.reduceAdd, Nat.reduceLeDiff, true_and, and_true, Nat.le_refl, true_implies, forall_const, not_false_eq_true, false_implies, not_true_eq_false, reduceCtorEq, tl_s, tl_n, rf_s, true_or, or_true, hc, q1, q2]
    refine Pens_of_c (by omega) w hp (by omega) (by omega) ?_
    rw [sp_of_0 hs]
    refine B_Law_law_457 ?_
    simp only [wp_cons, wp_nil, List.getElem?_cons_zero, List.getElem?_cons_succ, List.set_cons_zero, List.set_cons_succ, s_iadd, p2_s, I_add, s_istore, p1_s, s1_0, s1_s, kx_i, kx_r, kx_s, kx_n, kx_l, kx_0, s_iload, ldI_s, s_aload_n1, ldA_r, ldA_n, ldA_s, s_iconst, s_invokevirtual, rc_s, ob_s, List.drop_succ_cons, List.drop_zero, List.take_succ_cons, List.take_zero, List.reverse_cons, List.reverse_nil, List.nil_append, List.cons_append, List.length_cons, List.length_nil, d1, Int.reduceToNat, Nat.reduceAdd, Nat.reduceLeDiff, true_and, and_true, Nat.le_refl, true_implies, forall_const, not_false_eq_true, false_implies, not_true_eq_false, reduceCtorEq, tl_s, tl_n, rf_s, true_or, or_true, hc, q1, q2]
    refine Pens_of_c (by omega) w hp (by omega) (by omega) ?_
    rw [sp_of_2 hs]
    refine B_Law_law_469 ?_
    simp only [wp_cons, wp_nil, List.getElem?_cons_zero, List.getElem?_cons_succ, List.set_cons_zero, List.set_cons_succ, s_iadd, p2_s, I_add, s_istore, p1_s, s1_0, s1_s, kx_i, kx_r, kx_s, kx_n, kx_l, kx_0, s_iinc, ldI_s, s_goto, true_and, and_true, Nat.le_refl, true_implies, forall_const, not_false_eq_true, false_implies, not_true_eq_false, reduceCtorEq, tl_s, tl_n, rf_s, List.cons_append, List.nil_append, true_or, or_true, em]
    refine ih (k + 1) _ _ (by omega) ?_ ?_
    · rw [ha, sm_s]
      show _ + ((sg W.1.1 k).1.length : Int) = _
      have e9 : nP (sg W.1.1 k) = ((sg W.1.1 k).1.length : Int) := rfl
      omega
    · rw [hb, sm_s] <;> omega
theorem Law_sum2 {W : Wd} {i cs ss : Nat} {li la kd : Int} {x y : Int32} {h : g_H} {Q : g_Po} (w : wfW W) (hp : pens h 0 W) (q1 : cs ≤ 600000) (q2 : ss ≤ 7302250) {z8 : Int32} {ta tb9 : Int} (hO : ∀ a b : Int, a = ta - sm (fun j => nP (sg W.1.1 j)) W.1.1.length → b = tb9 - sm (fun j => lenS (sg W.1.1 j)) W.1.1.length → G Law_law 11 600000 7302250 cs ss 524 [some (.retAddr 0), some (.ref 0), some (.int (I li)), some (.int (I la)), some (.int (I (i : Int))), some (.int x), some (.int y), some (.int (I kd)), some (.int z8), some (.int (I a)), some (.int (I b)), some (.int (I (W.1.1.length : Int))), some (.int (I (W.1.1.length : Int)))] [] h Q) : ∀ (m k : Nat) (a b : Int), k + m = W.1.1.length → a = ta - sm (fun j => nP (sg W.1.1 j)) k → b = tb9 - sm (fun j => lenS (sg W.1.1 j)) k → G Law_law 11 600000 7302250 cs ss 487 [some (.retAddr 0), some (.ref 0), some (.int (I li)), some (.int (I la)), some (.int (I (i : Int))), some (.int x), some (.int y), some (.int (I kd)), some (.int z8), some (.int (I a)), some (.int (I b)), some (.int (I (W.1.1.length : Int))), some (.int (I (k : Int)))] [] h Q := by
  have d1 : 1 ≤ 11 := by omega
  have wl : W.1.1.length ≤ 10 := w.1.1.1
  obtain ⟨fs, hc⟩ := hp.at6
  intro m
  induction m with
  | zero =>
    intro k a b hk ha hb
    obtain rfl : k = W.1.1.length := by omega
    refine B_Law_law_487 ?_
    simp only [wp_cons, wp_nil, List.getElem?_cons_zero, List.getElem?_cons_succ, List.set_cons_zero, List.set_cons_succ, s_iload, ldI_s, s_if_icmp_ge, p2_s, true_and, and_true, Nat.le_refl, true_implies, forall_const, not_false_eq_true, false_implies, not_true_eq_false, reduceCtorEq, tl_s, tl_n, rf_s, List.cons_append, List.nil_append, true_or, or_true]
    refine b_le (by omega) (by omega) (fun cc => ?_) (fun cc => absurd cc (by omega))
    exact hO a b ha hb
  | succ m ih =>
    intro k a b hk ha hb
    have hs : k < W.1.1.length := by omega
    have em : (k : Int) + 1 = ((k + 1 : Nat) : Int) := by omega
    refine B_Law_law_487 ?_
    simp only [wp_cons, wp_nil, List.getElem?_cons_zero, List.getElem?_cons_succ, List.set_cons_zero, List.set_cons_succ, s_iload, ldI_s, s_if_icmp_ge, p2_s, true_and, and_true, Nat.le_refl, true_implies, forall_const, not_false_eq_true, false_implies, not_true_eq_false, reduceCtorEq, tl_s, tl_n, rf_s, List.cons_append, List.nil_append, true_or, or_true, hc, q1, q2]
    refine b_le (by omega) (by omega) (fun cc => absurd cc (by omega)) (fun cc => ?_)
    refine B_Law_law_494 ?_
    simp only [wp_cons, wp_nil, List.getElem?_cons_zero, List.getElem?_cons_succ, List.set_cons_zero, List.set_cons_succ, s_iload, ldI_s, s_aload_n1, ldA_r, ldA_n, ldA_s, s_iconst, s_invokevirtual, rc_s, ob_s, List.drop_succ_cons, List.drop_zero, List.take_succ_cons, List.take_zero, List.reverse_cons, List.reverse_nil, List.nil_append, List.cons_append, List.length_cons, List.length_nil, d1, Int.reduceToNat, Nat.reduceAdd, Nat.reduceLeDiff, true_and, and_true, Nat.le_refl, true_implies, forall_const, not_false_eq_true, false_implies, not_true_eq_false, reduceCtorEq, tl_s, tl_n, rf_s, true_or, or_true, hc, q1, q2]
    refine Pens_of_c (by omega) w hp (by omega) (by omega) ?_
    rw [sp_of_0 hs]
    refine B_Law_law_503 ?_
    simp only [wp_cons, wp_nil, List.getElem?_cons_zero, List.getElem?_cons_succ, List.set_cons_zero, List.set_cons_succ, s_isub, p2_s, I_sub, s_istore, p1_s, s1_0, s1_s, kx_i, kx_r, kx_s, kx_n, kx_l, kx_0, s_iload, ldI_s, s_aload_n1, ldA_r, ldA_n, ldA_s, s_iconst, s_invokevirtual, rc_s, ob_s, List.drop_succ_cons, List.drop_zero, List.take_succ_cons, List.take_zero, List.reverse_cons, List.reverse_nil, List.nil_append, List.cons_append, List.length_cons, List.length_nil, d1, Int.reduceToNat, Nat.reduceAdd, Nat.reduceLeDiff, true_and, and_true, Nat.le_refl, true_implies, forall_const, not_false_eq_true, false_implies, not_true_eq_false, reduceCtorEq, tl_s, tl_n, rf_s, true_or, or_true, hc, q1, q2]
    refine Pens_of_c (by omega) w hp (by omega) (by omega) ?_
    rw [sp_of_2 hs]
    refine B_Law_law_515 ?_
    simp only [wp_cons, wp_nil, List.getElem?_cons_zero, List.getElem?_cons_succ, List.set_cons_zero, List.set_cons_succ, s_isub, p2_s, I_sub, s_istore, p1_s, s1_0, s1_s, kx_i, kx_r, kx_s, kx_n, kx_l, kx_0, s_iinc, ldI_s, I_add, s_goto, true_and, and_true, Nat.le_refl, true_implies, forall_const, not_false_eq_true, false_implies, not_true_eq_false, reduceCtorEq, tl_s, tl_n, rf_s, List.cons_append, List.nil_append, true_or, or_true, em]
    refine ih (k + 1) _ _ (by omega) ?_ ?_
    · rw [ha, sm_s]
      show _ - ((sg W.1.1 k).1.length : Int) = _
      have e9 : nP (sg W.1.1 k) = ((sg W.1.1 k).1.length : Int) := rfl
      omega
    · rw [hb, sm_s] <;> omega
set_option maxHeartbeats 4000000 in
theorem Law_act {W : Wd} {i cs ss : Nat} {li la kd : Int} {x y : Int32} {h : g_H} {Q : g_Po} (w : wfW W) (hp : pens h 0 W) (hl : 208 ≤ h.length) (hpn : pno W li la) (hcs : cs ≤ 500000) (hss : ss ≤ 7000000) (K : ∀ (h' : g_H) (W' : Wd) (li' la' : Int) (cs' ss' : Nat) (x7 x8 x9 x10 x11 x12 : Option Value), wfW W' → pens h' 0 W' → 208 ≤ h'.length → pno W' li' la' → cs' ≤ cs + 3 → ss' ≤ ss + 64 → G Law_law 11 600000 7302250 cs' ss' 601 [some (.retAddr 0), some (.ref 0), some (.int (I li')), some (.int (I la')), some (.int (I (i : Int))), some (.int x), some (.int y), x7, x8, x9, x10, x11, x12] [] h' Q) {x9 x10 x11 x12 : Option Value} (hk : 5 ≤ kd ∧ kd < 14) (hn : 0 < W.1.1.length) : G Law_law 11 600000 7302250 cs ss 382 [some (.retAddr 0), some (.ref 0), some (.int (I li)), some (.int (I la)), some (.int (I (i : Int))), some (.int x), some (.int y), some (.int (I kd)), some (.int (I (W.1.1.length : Int))), x9, x10, x11, x12] [] h Q := by
  have d1 : 1 ≤ 11 := by omega
  have wl : W.1.1.length ≤ 10 := w.1.1.1
  have wp := w.1.2
  obtain ⟨fs, hc⟩ := hp.at6
  have q1 : cs ≤ 600000 := by omega
  have q2 : ss ≤ 7302250 := by omega
  obtain ⟨hli, hla⟩ := id hpn
  have lb : 0 ≤ li ∧ li ≤ 30 := by have := wp.1; omega
  have m1 : cs + 2 ≤ 600000 := by omega
  have k1 := cd_simplified
  have k2 := cd_welded
  have k3 := cd_changed
  by_cases c1 : kd < 7
  · refine B_Law_law_382 ?_
    simp only [wp_cons, wp_nil, List.getElem?_cons_zero, List.getElem?_cons_succ, List.set_cons_zero, List.set_cons_succ, s_iload, ldI_s, s_bipush, s_if_icmp_ge, p2_s, true_and, and_true, Nat.le_refl, true_implies, forall_const, not_false_eq_true, false_implies, not_true_eq_false, reduceCtorEq, tl_s, tl_n, rf_s, List.cons_append, List.nil_append, true_or, or_true, hc, q1, q2, k1, k2, k3, Nat.reduceLeDiff]
    refine b_le (by omega) (by omega) (fun cc => absurd cc (by omega)) (fun cc => ?_)
    refine B_Law_law_389 ?_
    simp only [wp_cons, wp_nil, List.getElem?_cons_zero, List.getElem?_cons_succ, List.set_cons_zero, List.set_cons_succ, s_aload_n1, ldA_r, ldA_n, ldA_s, s_iload, ldI_s, s_invokestatic, rc_s, ob_s, List.drop_succ_cons, List.drop_zero, List.take_succ_cons, List.take_zero, List.reverse_cons, List.reverse_nil, List.nil_append, List.cons_append, List.length_cons, List.length_nil, Nat.reduceEqDiff, eq_self, reduceIte, p1_s, p2_s, l1_s, d1, Int.reduceToNat, Nat.reduceAdd, Nat.reduceLeDiff, true_and, and_true, Nat.le_refl, true_implies, forall_const, not_false_eq_true, false_implies, not_true_eq_false, reduceCtorEq, tl_s, tl_n, rf_s, true_or, or_true, hc, q1, q2, k1, k2, k3]
    refine ⟨2, 64, by omega, by omega, ?_⟩
    refine Law_simplified_c (by omega) w hp hl hn (fun h5 W5 w5 e5 p5 l5 => ?_)
    refine B_Law_law_395 ?_
    simp only [wp_cons, wp_nil, List.getElem?_cons_zero, List.getElem?_cons_succ, List.set_cons_zero, List.set_cons_succ, s_ifCond_ne, p1_s, true_and, and_true, Nat.le_refl, true_implies, forall_const, not_false_eq_true, false_implies, not_true_eq_false, reduceCtorEq, tl_s, tl_n, rf_s, List.cons_append, List.nil_append, true_or, or_true, hc, q1, q2, k1, k2, k3, Nat.reduceLeDiff]
    refine b_ne (by omega) (by omega) (fun cc => ?_) (fun cc => absurd cc (by omega))
    exact K h5 W5 li la (cs + 2) (ss + 64) _ _ _ _ _ _ w5 p5 l5 (hpn.same e5) (by omega) (by omega)
  · by_cases c2 : kd < 9
    · refine B_Law_law_382 ?_
      simp only [wp_cons, wp_nil, List.getElem?_cons_zero, List.getElem?_cons_succ, List.set_cons_zero, List.set_cons_succ, s_iload, ldI_s, s_bipush, s_if_icmp_ge, p2_s, true_and, and_true, Nat.le_refl, true_implies, forall_const, not_false_eq_true, false_implies, not_true_eq_false, reduceCtorEq, tl_s, tl_n, rf_s, List.cons_append, List.nil_append, true_or, or_true, hc, q1, q2, k1, k2, k3, Nat.reduceLeDiff]
      refine b_le (by omega) (by omega) (fun cc => ?_) (fun cc => absurd cc (by omega))
      refine B_Law_law_400 ?_
      simp only [wp_cons, wp_nil, List.getElem?_cons_zero, List.getElem?_cons_succ, List.set_cons_zero, List.set_cons_succ, s_iload, ldI_s, s_bipush, s_if_icmp_ge, p2_s, true_and, and_true, Nat.le_refl, true_implies, forall_const, not_false_eq_true, false_implies, not_true_eq_false, reduceCtorEq, tl_s, tl_n, rf_s, List.cons_append, List.nil_append, true_or, or_true, hc, q1, q2, k1, k2, k3, Nat.reduceLeDiff]
      refine b_le (by omega) (by omega) (fun cc => absurd cc (by omega)) (fun cc => ?_)
      refine B_Law_law_407 ?_
      simp only [wp_cons, wp_nil, List.getElem?_cons_zero, List.getElem?_cons_succ, List.set_cons_zero, List.set_cons_succ, s_aload_n1, ldA_r, ldA_n, ldA_s, s_iconst, s_iload, ldI_s, s_bipush, s_invokestatic, rc_s, ob_s, List.drop_succ_cons, List.drop_zero, List.take_succ_cons, List.take_zero, List.reverse_cons, List.reverse_nil, List.nil_append, List.cons_append, List.length_cons, List.length_nil, Nat.reduceEqDiff, eq_self, reduceIte, p1_s, p2_s, l1_s, d1, Int.reduceToNat, Nat.reduceAdd, Nat.reduceLeDiff, true_and, and_true, Nat.le_refl, true_implies, forall_const, not_false_eq_true, false_implies, not_true_eq_false, reduceCtorEq, tl_s, tl_n, rf_s, true_or, or_true, hc, q1, q2, k1, k2, k3]
      refine Law_low_c (by omega) (fun r1 h1 h2 => ?_)
      refine B_Law_law_416 ?_
      simp only [wp_cons, wp_nil, List.getElem?_cons_zero, List.getElem?_cons_succ, List.set_cons_zero, List.set_cons_succ, s_iadd, p2_s, I_add, s_invokestatic, rc_s, ob_s, List.drop_succ_cons, List.drop_zero, List.take_succ_cons, List.take_zero, List.reverse_cons, List.reverse_nil, List.nil_append, List.cons_append, List.length_cons, List.length_nil, Nat.reduceEqDiff, eq_self, reduceIte, p1_s, l1_s, d1, Int.reduceToNat, Nat.reduceAdd, Nat.reduceLeDiff, true_and, and_true, Nat.le_refl, true_implies, forall_const, not_false_eq_true, false_implies, not_true_eq_false, reduceCtorEq, tl_s, tl_n, rf_s, true_or, or_true, hc, q1, q2, k1, k2, k3]
      refine ⟨3, 50, by omega, by omega, ?_⟩
      refine Law_welded_c (by omega) (by omega) w hp hl (fun h5 W5 w5 e5 p5 l5 => ?_)
      refine B_Law_law_420 ?_
      simp only [wp_cons, wp_nil, List.getElem?_cons_zero, List.getElem?_cons_succ, List.set_cons_zero, List.set_cons_succ, s_ifCond_ne, p1_s, true_and, and_true, Nat.le_refl, true_implies, forall_const, not_false_eq_true, false_implies, not_true_eq_false, reduceCtorEq, tl_s, tl_n, rf_s, List.cons_append, List.nil_append, true_or, or_true, hc, q1, q2, k1, k2, k3, Nat.reduceLeDiff]
      refine b_ne (by omega) (by omega) (fun cc => ?_) (fun cc => absurd cc (by omega))
      exact K h5 W5 li la (cs + 3) (ss + 50) _ _ _ _ _ _ w5 p5 l5 (hpn.same e5) (by omega) (by omega)
    · by_cases c3 : kd = 9
      · subst c3
        refine B_Law_law_382 ?_
        simp only [wp_cons, wp_nil, List.getElem?_cons_zero, List.getElem?_cons_succ, List.set_cons_zero, List.set_cons_succ, s_iload, ldI_s, s_bipush, s_if_icmp_ge, p2_s, true_and, and_true, Nat.le_refl, true_implies, forall_const, not_false_eq_true, false_implies, not_true_eq_false, reduceCtorEq, tl_s, tl_n, rf_s, List.cons_append, List.nil_append, true_or, or_true, hc, q1, q2, k1, k2, k3, Nat.reduceLeDiff]
        refine b_le (by omega) (by omega) (fun cc => ?_) (fun cc => absurd cc (by omega))
        refine B_Law_law_400 ?_
        simp only [wp_cons, wp_nil, List.getElem?_cons_zero, List.getElem?_cons_succ, List.set_cons_zero, List.set_cons_succ, s_iload, ldI_s, s_bipush, s_if_icmp_ge, p2_s, true_and, and_true, Nat.le_refl, true_implies, forall_const, not_false_eq_true, false_implies, not_true_eq_false, reduceCtorEq, tl_s, tl_n, rf_s, List.cons_append, List.nil_append, true_or, or_true, hc, q1, q2, k1, k2, k3, Nat.reduceLeDiff]
        refine b_le (by omega) (by omega) (fun cc => ?_) (fun cc => absurd cc (by omega))
        refine B_Law_law_425 ?_
        simp only [wp_cons, wp_nil, List.getElem?_cons_zero, List.getElem?_cons_succ, List.set_cons_zero, List.set_cons_succ, s_iload, ldI_s, s_bipush, s_if_icmp_ne, p2_s, true_and, and_true, Nat.le_refl, true_implies, forall_const, not_false_eq_true, false_implies, not_true_eq_false, reduceCtorEq, tl_s, tl_n, rf_s, List.cons_append, List.nil_append, true_or, or_true, hc, q1, q2, k1, k2, k3, Nat.reduceLeDiff]
        refine B_Law_law_432 ?_
        simp only [wp_cons, wp_nil, List.getElem?_cons_zero, List.getElem?_cons_succ, List.set_cons_zero, List.set_cons_succ, s_iconst, s_istore, p1_s, s1_0, s1_s, kx_i, kx_r, kx_s, kx_n, kx_l, kx_0, true_and, and_true, Nat.le_refl, true_implies, forall_const, not_false_eq_true, false_implies, not_true_eq_false, reduceCtorEq, tl_s, tl_n, rf_s, List.cons_append, List.nil_append, true_or, or_true, hc, q1, q2, k1, k2, k3, Nat.reduceLeDiff]
        refine Law_sum1 (kd := 9) w hp q1 q2 (fun a b ha hb => ?_) W.1.1.length 0 0 0 (by omega) rfl rfl
        refine B_Law_law_478 ?_
        simp only [wp_cons, wp_nil, List.getElem?_cons_zero, List.getElem?_cons_succ, List.set_cons_zero, List.set_cons_succ, s_aload_n1, ldA_r, ldA_n, ldA_s, s_invokevirtual, rc_s, ob_s, List.drop_succ_cons, List.drop_zero, List.take_succ_cons, List.take_zero, List.reverse_cons, List.reverse_nil, List.nil_append, List.cons_append, List.length_cons, List.length_nil, d1, Int.reduceToNat, Nat.reduceAdd, Nat.reduceLeDiff, true_and, and_true, Nat.le_refl, true_implies, forall_const, not_false_eq_true, false_implies, not_true_eq_false, reduceCtorEq, tl_s, tl_n, rf_s, true_or, or_true, hc, q1, q2, k1, k2, k3]
        refine Pens_join_c (by omega) w hp (fun h5 c5 p5 => ?_)
        have w5 := kp_join w
        have l5 : 208 ≤ h5.length := by have := c5.1; omega
        obtain ⟨t1, t2, t3, t4⟩ := joinF_tot w.1.1 hn
        rw [show sp_join W = (((joinF W.1.1).length : Int), setD W (joinF W.1.1)) from rfl] at p5 w5 ⊢
        refine B_Law_law_482 ?_
        simp only [wp_cons, wp_nil, List.getElem?_cons_zero, List.getElem?_cons_succ, List.set_cons_zero, List.set_cons_succ, s_istore, p1_s, s1_0, s1_s, kx_i, kx_r, kx_s, kx_n, kx_l, kx_0, s_iconst, true_and, and_true, Nat.le_refl, true_implies, forall_const, not_false_eq_true, false_implies, not_true_eq_false, reduceCtorEq, tl_s, tl_n, rf_s, List.cons_append, List.nil_append, true_or, or_true, hc, q1, q2, k1, k2, k3, Nat.reduceLeDiff]
        refine Law_sum2 (W := setD W (joinF W.1.1)) (kd := 9) (ta := a) (tb9 := b) w5 p5 q1 q2 (fun a2 b2 ha2 hb2 => ?_) (joinF W.1.1).length 0 a b (by show 0 + _ = (joinF W.1.1).length; omega) (by rw [sm_z]; omega) (by rw [sm_z]; omega)
        have e1 : a2 = tot nP W.1.1 - tot nP (joinF W.1.1) := by rw [ha2, ha]; rfl
        have e2 : b2 = 0 := by
          have : b2 = tot lenS W.1.1 - tot lenS (joinF W.1.1) := by rw [hb2, hb]; rfl
          omega
        have bb : tot nP W.1.1 ≤ 30 * W.1.1.length ∧ 0 ≤ tot nP (joinF W.1.1) := by
          have x1 := sm_rng (fun i => nP (sg W.1.1 i)) 30 W.1.1.length (fun i hi => by have := (w.1.1.2 i hi).2.1; show 0 ≤ ((sg W.1.1 i).1.length : Int) ∧ ((sg W.1.1 i).1.length : Int) ≤ 30; omega)
          have wj := joinF_wf w.1.1
          have x2 := sm_rng (fun i => nP (sg (joinF W.1.1) i)) 30 (joinF W.1.1).length (fun i hi => by have := (wj.2 i hi).2.1; show 0 ≤ ((sg (joinF W.1.1) i).1.length : Int) ∧ ((sg (joinF W.1.1) i).1.length : Int) ≤ 30; omega)
          exact ⟨x1.2, x2.1⟩
        subst e2
        obtain ⟨fs5, hc5⟩ := p5.at6
        have hwl : ((setD W (joinF W.1.1)).1.1.length : Int) = ((joinF W.1.1).length : Int) := rfl
        refine B_Law_law_524 ?_
        simp only [wp_cons, wp_nil, List.getElem?_cons_zero, List.getElem?_cons_succ, List.set_cons_zero, List.set_cons_succ, s_iload, ldI_s, s_aload_n1, ldA_r, ldA_n, ldA_s, s_invokevirtual, rc_s, ob_s, List.drop_succ_cons, List.drop_zero, List.take_succ_cons, List.take_zero, List.reverse_cons, List.reverse_nil, List.nil_append, List.cons_append, List.length_cons, List.length_nil, d1, Int.reduceToNat, Nat.reduceAdd, Nat.reduceLeDiff, true_and, and_true, Nat.le_refl, true_implies, forall_const, not_false_eq_true, false_implies, not_true_eq_false, reduceCtorEq, tl_s, tl_n, rf_s, true_or, or_true, hc5, q1, q2, hwl]
        refine Pens_strokes_c p5 ?_
        rw [show (sp_strokes (setD W (joinF W.1.1))).1 = ((joinF W.1.1).length : Int) from rfl]
        refine B_Law_law_530 ?_
        simp only [wp_cons, wp_nil, List.getElem?_cons_zero, List.getElem?_cons_succ, List.set_cons_zero, List.set_cons_succ, s_if_icmp_ne, p2_s, true_and, and_true, Nat.le_refl, true_implies, forall_const, not_false_eq_true, false_implies, not_true_eq_false, reduceCtorEq, tl_s, tl_n, rf_s, List.cons_append, List.nil_append, true_or, or_true, hc5, q1, q2, hwl]
        refine B_Law_law_533 ?_
        simp only [wp_cons, wp_nil, List.getElem?_cons_zero, List.getElem?_cons_succ, List.set_cons_zero, List.set_cons_succ, s_iload, ldI_s, s_iconst, s_if_icmp_lt, p2_s, true_and, and_true, Nat.le_refl, true_implies, forall_const, not_false_eq_true, false_implies, not_true_eq_false, reduceCtorEq, tl_s, tl_n, rf_s, List.cons_append, List.nil_append, true_or, or_true, hc5, q1, q2, hwl]
        refine b_lt (by omega) (by omega) (fun cc => absurd cc (by omega)) (fun cc => ?_)
        refine B_Law_law_539 ?_
        simp only [wp_cons, wp_nil, List.getElem?_cons_zero, List.getElem?_cons_succ, List.set_cons_zero, List.set_cons_succ, s_iload, ldI_s, s_if_icmp_gt, p2_s, true_and, and_true, Nat.le_refl, true_implies, forall_const, not_false_eq_true, false_implies, not_true_eq_false, reduceCtorEq, tl_s, tl_n, rf_s, List.cons_append, List.nil_append, true_or, or_true, hc5, q1, q2, hwl]
        refine b_lt (by omega) (by omega) (fun cc => absurd cc (by omega)) (fun cc => ?_)
        refine B_Law_law_546 ?_
        simp only [wp_cons, wp_nil, List.getElem?_cons_zero, List.getElem?_cons_succ, List.set_cons_zero, List.set_cons_succ, s_iload, ldI_s, s_isub, p2_s, I_sub, s_if_icmp_lt, true_and, and_true, Nat.le_refl, true_implies, forall_const, not_false_eq_true, false_implies, not_true_eq_false, reduceCtorEq, tl_s, tl_n, rf_s, List.cons_append, List.nil_append, true_or, or_true, hc5, q1, q2, hwl]
        refine b_lt (by omega) (by omega) (fun cc => absurd cc (by omega)) (fun cc => ?_)
        refine B_Law_law_556 ?_
        simp only [wp_cons, wp_nil, List.getElem?_cons_zero, List.getElem?_cons_succ, List.set_cons_zero, List.set_cons_succ, s_iload, ldI_s, s_ifCond_eq, p1_s, true_and, and_true, Nat.le_refl, true_implies, forall_const, not_false_eq_true, false_implies, not_true_eq_false, reduceCtorEq, tl_s, tl_n, rf_s, List.cons_append, List.nil_append, true_or, or_true, hc5, q1, q2, hwl]
        refine B_Law_law_563 ?_
        simp only [wp_cons, wp_nil, List.getElem?_cons_zero, List.getElem?_cons_succ, List.set_cons_zero, List.set_cons_succ, s_goto, true_and, and_true, Nat.le_refl, true_implies, forall_const, not_false_eq_true, false_implies, not_true_eq_false, reduceCtorEq, tl_s, tl_n, rf_s, List.cons_append, List.nil_append, true_or, or_true, hc5, q1, q2, hwl]
        exact K h5 _ li la cs ss _ _ _ _ _ _ w5 p5 l5 (hpn.same rfl) (by omega) (by omega)
      · have go : ∀ kk : Int, 0 ≤ kk ∧ kk ≤ 6 → G Law_law 11 600000 7302250 cs ss 591 [some (.retAddr 0), some (.ref 0), some (.int (I li)), some (.int (I la)), some (.int (I (i : Int))), some (.int x), some (.int y), some (.int (I kd)), some (.int (I (W.1.1.length : Int))), x9, x10, x11, x12] [.int (I kk), .ref 0] h Q := by
          intro kk hkk
          refine B_Law_law_591 ?_
          simp only [wp_cons, wp_nil, List.getElem?_cons_zero, List.getElem?_cons_succ, List.set_cons_zero, List.set_cons_succ, s_iload, ldI_s, s_invokestatic, rc_s, ob_s, List.drop_succ_cons, List.drop_zero, List.take_succ_cons, List.take_zero, List.reverse_cons, List.reverse_nil, List.nil_append, List.cons_append, List.length_cons, List.length_nil, Nat.reduceEqDiff, eq_self, reduceIte, p1_s, p2_s, l1_s, d1, Int.reduceToNat, Nat.reduceAdd, Nat.reduceLeDiff, true_and, and_true, Nat.le_refl, true_implies, forall_const, not_false_eq_true, false_implies, not_true_eq_false, reduceCtorEq, tl_s, tl_n, rf_s, true_or, or_true, hc, q1, q2, k1, k2, k3]
          refine ⟨2, 64, by omega, by omega, ?_⟩
          refine Law_changed_c (by omega) w hp hl hn hkk (fun h5 W5 w5 e5 p5 l5 => ?_)
          refine B_Law_law_596 ?_
          simp only [wp_cons, wp_nil, List.getElem?_cons_zero, List.getElem?_cons_succ, List.set_cons_zero, List.set_cons_succ, s_ifCond_ne, p1_s, true_and, and_true, Nat.le_refl, true_implies, forall_const, not_false_eq_true, false_implies, not_true_eq_false, reduceCtorEq, tl_s, tl_n, rf_s, List.cons_append, List.nil_append, true_or, or_true, hc, q1, q2, k1, k2, k3, Nat.reduceLeDiff]
          refine b_ne (by omega) (by omega) (fun cc => ?_) (fun cc => absurd cc (by omega))
          exact K h5 W5 li la (cs + 2) (ss + 64) _ _ _ _ _ _ w5 p5 l5 (hpn.same e5) (by omega) (by omega)
        by_cases c4 : kd = 13
        · subst c4
          refine B_Law_law_382 ?_
          simp only [wp_cons, wp_nil, List.getElem?_cons_zero, List.getElem?_cons_succ, List.set_cons_zero, List.set_cons_succ, s_iload, ldI_s, s_bipush, s_if_icmp_ge, p2_s, true_and, and_true, Nat.le_refl, true_implies, forall_const, not_false_eq_true, false_implies, not_true_eq_false, reduceCtorEq, tl_s, tl_n, rf_s, List.cons_append, List.nil_append, true_or, or_true, hc, q1, q2, k1, k2, k3, Nat.reduceLeDiff]
          refine b_le (by omega) (by omega) (fun cc => ?_) (fun cc => absurd cc (by omega))
          refine B_Law_law_400 ?_
          simp only [wp_cons, wp_nil, List.getElem?_cons_zero, List.getElem?_cons_succ, List.set_cons_zero, List.set_cons_succ, s_iload, ldI_s, s_bipush, s_if_icmp_ge, p2_s, true_and, and_true, Nat.le_refl, true_implies, forall_const, not_false_eq_true, false_implies, not_true_eq_false, reduceCtorEq, tl_s, tl_n, rf_s, List.cons_append, List.nil_append, true_or, or_true, hc, q1, q2, k1, k2, k3, Nat.reduceLeDiff]
          refine b_le (by omega) (by omega) (fun cc => ?_) (fun cc => absurd cc (by omega))
          refine B_Law_law_425 ?_
          simp only [wp_cons, wp_nil, List.getElem?_cons_zero, List.getElem?_cons_succ, List.set_cons_zero, List.set_cons_succ, s_iload, ldI_s, s_bipush, s_if_icmp_ne, p2_s, true_and, and_true, Nat.le_refl, true_implies, forall_const, not_false_eq_true, false_implies, not_true_eq_false, reduceCtorEq, tl_s, tl_n, rf_s, List.cons_append, List.nil_append, true_or, or_true, hc, q1, q2, k1, k2, k3, Nat.reduceLeDiff]
          refine b_ne (by omega) (by omega) (fun cc => ?_) (fun cc => absurd cc (by omega))
          refine B_Law_law_566 ?_
          simp only [wp_cons, wp_nil, List.getElem?_cons_zero, List.getElem?_cons_succ, List.set_cons_zero, List.set_cons_succ, s_aload_n1, ldA_r, ldA_n, ldA_s, s_iload, ldI_s, s_bipush, s_if_icmp_ne, p2_s, true_and, and_true, Nat.le_refl, true_implies, forall_const, not_false_eq_true, false_implies, not_true_eq_false, reduceCtorEq, tl_s, tl_n, rf_s, List.cons_append, List.nil_append, true_or, or_true, hc, q1, q2, k1, k2, k3, Nat.reduceLeDiff]
          refine B_Law_law_574 ?_
          simp only [wp_cons, wp_nil, List.getElem?_cons_zero, List.getElem?_cons_succ, List.set_cons_zero, List.set_cons_succ, s_iload, ldI_s, s_iconst, s_ishr, p2_s, s_bipush, s_invokestatic, rc_s, ob_s, List.drop_succ_cons, List.drop_zero, List.take_succ_cons, List.take_zero, List.reverse_cons, List.reverse_nil, List.nil_append, List.cons_append, List.length_cons, List.length_nil, Nat.reduceEqDiff, eq_self, reduceIte, p1_s, l1_s, d1, Int.reduceToNat, Nat.reduceAdd, Nat.reduceLeDiff, true_and, and_true, Nat.le_refl, true_implies, forall_const, not_false_eq_true, false_implies, not_true_eq_false, reduceCtorEq, tl_s, tl_n, rf_s, true_or, or_true, hc, q1, q2, k1, k2, k3]
          refine Law_low_c (by omega) (fun r1 h1 h2 => ?_)
          refine B_Law_law_583 ?_
          simp only [wp_cons, wp_nil, List.getElem?_cons_zero, List.getElem?_cons_succ, List.set_cons_zero, List.set_cons_succ, s_goto, true_and, and_true, Nat.le_refl, true_implies, forall_const, not_false_eq_true, false_implies, not_true_eq_false, reduceCtorEq, tl_s, tl_n, rf_s, List.cons_append, List.nil_append, true_or, or_true, hc, q1, q2, k1, k2, k3, Nat.reduceLeDiff]
          exact go r1 (by omega)
        · refine B_Law_law_382 ?_
          simp only [wp_cons, wp_nil, List.getElem?_cons_zero, List.getElem?_cons_succ, List.set_cons_zero, List.set_cons_succ, s_iload, ldI_s, s_bipush, s_if_icmp_ge, p2_s, true_and, and_true, Nat.le_refl, true_implies, forall_const, not_false_eq_true, false_implies, not_true_eq_false, reduceCtorEq, tl_s, tl_n, rf_s, List.cons_append, List.nil_append, true_or, or_true, hc, q1, q2, k1, k2, k3, Nat.reduceLeDiff]
          refine b_le (by omega) (by omega) (fun cc => ?_) (fun cc => absurd cc (by omega))
          refine B_Law_law_400 ?_
          simp only [wp_cons, wp_nil, List.getElem?_cons_zero, List.getElem?_cons_succ, List.set_cons_zero, List.set_cons_succ, s_iload, ldI_s, s_bipush, s_if_icmp_ge, p2_s, true_and, and_true, Nat.le_refl, true_implies, forall_const, not_false_eq_true, false_implies, not_true_eq_false, reduceCtorEq, tl_s, tl_n, rf_s, List.cons_append, List.nil_append, true_or, or_true, hc, q1, q2, k1, k2, k3, Nat.reduceLeDiff]
          refine b_le (by omega) (by omega) (fun cc => ?_) (fun cc => absurd cc (by omega))
          refine B_Law_law_425 ?_
          simp only [wp_cons, wp_nil, List.getElem?_cons_zero, List.getElem?_cons_succ, List.set_cons_zero, List.set_cons_succ, s_iload, ldI_s, s_bipush, s_if_icmp_ne, p2_s, true_and, and_true, Nat.le_refl, true_implies, forall_const, not_false_eq_true, false_implies, not_true_eq_false, reduceCtorEq, tl_s, tl_n, rf_s, List.cons_append, List.nil_append, true_or, or_true, hc, q1, q2, k1, k2, k3, Nat.reduceLeDiff]
          refine b_ne (by omega) (by omega) (fun cc => ?_) (fun cc => absurd cc (by omega))
          refine B_Law_law_566 ?_
          simp only [wp_cons, wp_nil, List.getElem?_cons_zero, List.getElem?_cons_succ, List.set_cons_zero, List.set_cons_succ, s_aload_n1, ldA_r, ldA_n, ldA_s, s_iload, ldI_s, s_bipush, s_if_icmp_ne, p2_s, true_and, and_true, Nat.le_refl, true_implies, forall_const, not_false_eq_true, false_implies, not_true_eq_false, reduceCtorEq, tl_s, tl_n, rf_s, List.cons_append, List.nil_append, true_or, or_true, hc, q1, q2, k1, k2, k3, Nat.reduceLeDiff]
          refine b_ne (by omega) (by omega) (fun cc => ?_) (fun cc => absurd cc (by omega))
          refine B_Law_law_586 ?_
          simp only [wp_cons, wp_nil, List.getElem?_cons_zero, List.getElem?_cons_succ, List.set_cons_zero, List.set_cons_succ, s_iload, ldI_s, s_bipush, s_isub, p2_s, I_sub, true_and, and_true, Nat.le_refl, true_implies, forall_const, not_false_eq_true, false_implies, not_true_eq_false, reduceCtorEq, tl_s, tl_n, rf_s, List.cons_append, List.nil_append, true_or, or_true, hc, q1, q2, k1, k2, k3, Nat.reduceLeDiff]
          exact go (kd - 10) (by omega)
set_option maxHeartbeats 4000000 in
theorem Law_loop : ∀ (m i : Nat) (W : Wd) (h : g_H) (li la : Int) (cs ss : Nat) (x5 x6 x7 x8 x9 x10 x11 x12 : Option Value), i + m = 44 → wfW W → pens h 0 W → 208 ≤ h.length → pno W li la → cs ≤ 208 + 5 * i → ss ≤ 3292 + 128 * i → G Law_law 11 600000 7302250 cs ss 15 [some (.retAddr 0), some (.ref 0), some (.int (I li)), some (.int (I la)), some (.int (I (i : Int))), x5, x6, x7, x8, x9, x10, x11, x12] [] h (fun r _ => r = some (.int (I 1))) := by
  have d1 : 1 ≤ 11 := by omega
  have k4 := cd_same
  intro m
  induction m with
  | zero =>
    intro i W h li la cs ss x5 x6 x7 x8 x9 x10 x11 x12 hi w hp hl hpn hcs hss
    obtain rfl : i = 44 := by omega
    have q1 : cs ≤ 600000 := by omega
    have q2 : ss ≤ 7302250 := by omega
    rw [show ((44 : Nat) : Int) = 44 from rfl]
    refine B_Law_law_15 ?_
    simp only [wp_cons, wp_nil, List.getElem?_cons_zero, List.getElem?_cons_succ, List.set_cons_zero, List.set_cons_succ, s_iload, ldI_s, s_bipush, s_if_icmp_ge, p2_s, true_and, and_true, Nat.le_refl, true_implies, forall_const, not_false_eq_true, false_implies, not_true_eq_false, reduceCtorEq, tl_s, tl_n, rf_s, List.cons_append, List.nil_append, true_or, or_true, q1, q2]
    refine b_le (by omega) (by omega) (fun cc => ?_) (fun cc => absurd cc (by omega))
    refine B_Law_law_628 ?_
    simp only [wp_cons, wp_nil, List.getElem?_cons_zero, List.getElem?_cons_succ, List.set_cons_zero, List.set_cons_succ, s_iconst, s_ireturn, p1_s, rI_i, rI_z, rI_c, z_01, z_11, rt_Law_law, true_and, and_true, Nat.le_refl, true_implies, forall_const, not_false_eq_true, false_implies, not_true_eq_false, reduceCtorEq, tl_s, tl_n, rf_s, List.cons_append, List.nil_append, true_or, or_true, q1, q2]
  | succ m ih =>
    intro i W h li la cs ss x5 x6 x7 x8 x9 x10 x11 x12 hi w hp hl hpn hcs hss
    have q1 : cs ≤ 600000 := by omega
    have q2 : ss ≤ 7302250 := by omega
    have wl : W.1.1.length ≤ 10 := w.1.1.1
    obtain ⟨fs, hc⟩ := hp.at6
    have em : (i : Int) + 1 = ((i + 1 : Nat) : Int) := by omega
    refine B_Law_law_15 ?_
    simp only [wp_cons, wp_nil, List.getElem?_cons_zero, List.getElem?_cons_succ, List.set_cons_zero, List.set_cons_succ, s_iload, ldI_s, s_bipush, s_if_icmp_ge, p2_s, true_and, and_true, Nat.le_refl, true_implies, forall_const, not_false_eq_true, false_implies, not_true_eq_false, reduceCtorEq, tl_s, tl_n, rf_s, List.cons_append, List.nil_append, true_or, or_true, hc, q1, q2]
    refine b_le (by omega) (by omega) (fun cc => absurd cc (by omega)) (fun cc => ?_)
    refine B_Law_law_22 ?_
    simp only [wp_cons, wp_nil, List.getElem?_cons_zero, List.getElem?_cons_succ, List.set_cons_zero, List.set_cons_succ, s_aload_n0, ldA_r, ldA_n, ldA_s, s_iconst, s_iload, ldI_s, s_imul, p2_s, I_mul, s_invokestatic, rc_s, ob_s, List.drop_succ_cons, List.drop_zero, List.take_succ_cons, List.take_zero, List.reverse_cons, List.reverse_nil, List.nil_append, List.cons_append, List.length_cons, List.length_nil, Nat.reduceEqDiff, eq_self, reduceIte, p1_s, l1_s, d1, Int.reduceToNat, Nat.reduceAdd, Nat.reduceLeDiff, true_and, and_true, Nat.le_refl, true_implies, forall_const, not_false_eq_true, false_implies, not_true_eq_false, reduceCtorEq, tl_s, tl_n, rf_s, true_or, or_true, hc, q1, q2]
    refine Law_cell_c (by omega) (fun x => ?_)
    refine B_Law_law_30 ?_
    simp only [wp_cons, wp_nil, List.getElem?_cons_zero, List.getElem?_cons_succ, List.set_cons_zero, List.set_cons_succ, s_istore, p1_s, s1_0, s1_s, kx_i, kx_r, kx_s, kx_n, kx_l, kx_0, s_aload_n0, ldA_r, ldA_n, ldA_s, s_iconst, s_iload, ldI_s, s_imul, p2_s, I_mul, s_iadd, I_add, s_invokestatic, rc_s, ob_s, List.drop_succ_cons, List.drop_zero, List.take_succ_cons, List.take_zero, List.reverse_cons, List.reverse_nil, List.nil_append, List.cons_append, List.length_cons, List.length_nil, Nat.reduceEqDiff, eq_self, reduceIte, l1_s, d1, Int.reduceToNat, Nat.reduceAdd, Nat.reduceLeDiff, true_and, and_true, Nat.le_refl, true_implies, forall_const, not_false_eq_true, false_implies, not_true_eq_false, reduceCtorEq, tl_s, tl_n, rf_s, true_or, or_true, hc, q1, q2]
    refine Law_cell_c (by omega) (fun y => ?_)
    have K : ∀ (h' : g_H) (W' : Wd) (li' la' : Int) (cs' ss' : Nat) (x7 x8 x9 x10 x11 x12 : Option Value), wfW W' → pens h' 0 W' → 208 ≤ h'.length → pno W' li' la' → cs' ≤ cs + 3 → ss' ≤ ss + 64 → G Law_law 11 600000 7302250 cs' ss' 601 [some (.retAddr 0), some (.ref 0), some (.int (I li')), some (.int (I la')), some (.int (I (i : Int))), some (.int x), some (.int y), x7, x8, x9, x10, x11, x12] [] h' (fun r _ => r = some (.int (I 1))) := by
      intro h5 W5 li5 la5 cs5 ss5 y7 y8 y9 y10 y11 y12 w5 p5 l5 pn5 b1 b2
      obtain ⟨fs5, hc5⟩ := p5.at6
      have r1 : cs5 ≤ 600000 := by omega
      have r2 : ss5 ≤ 7302250 := by omega
      refine B_Law_law_601 ?_
      simp only [wp_cons, wp_nil, List.getElem?_cons_zero, List.getElem?_cons_succ, List.set_cons_zero, List.set_cons_succ, s_aload_n1, ldA_r, ldA_n, ldA_s, s_invokevirtual, rc_s, ob_s, List.drop_succ_cons, List.drop_zero, List.take_succ_cons, List.take_zero, List.reverse_cons, List.reverse_nil, List.nil_append, List.cons_append, List.length_cons, List.length_nil, d1, Int.reduceToNat, Nat.reduceAdd, Nat.reduceLeDiff, true_and, and_true, Nat.le_refl, true_implies, forall_const, not_false_eq_true, false_implies, not_true_eq_false, reduceCtorEq, tl_s, tl_n, rf_s, true_or, or_true, hc5, r1, r2, k4]
      refine Pens_line_c p5 ?_
      rw [show (sp_line W5).1 = li5 from pn5.1.symm]
      refine B_Law_law_605 ?_
      simp only [wp_cons, wp_nil, List.getElem?_cons_zero, List.getElem?_cons_succ, List.set_cons_zero, List.set_cons_succ, s_iload_n2, ldI_s, s_if_icmp_ne, p2_s, true_and, and_true, Nat.le_refl, true_implies, forall_const, not_false_eq_true, false_implies, not_true_eq_false, reduceCtorEq, tl_s, tl_n, rf_s, List.cons_append, List.nil_append, true_or, or_true, hc5, r1, r2, k4, Nat.reduceLeDiff]
      refine B_Law_law_609 ?_
      simp only [wp_cons, wp_nil, List.getElem?_cons_zero, List.getElem?_cons_succ, List.set_cons_zero, List.set_cons_succ, s_aload_n1, ldA_r, ldA_n, ldA_s, s_iload, ldI_s, s_iconst, s_ishr, p2_s, s_invokestatic, rc_s, ob_s, List.drop_succ_cons, List.drop_zero, List.take_succ_cons, List.take_zero, List.reverse_cons, List.reverse_nil, List.nil_append, List.cons_append, List.length_cons, List.length_nil, Nat.reduceEqDiff, eq_self, reduceIte, p1_s, l1_s, d1, Int.reduceToNat, Nat.reduceAdd, Nat.reduceLeDiff, true_and, and_true, Nat.le_refl, true_implies, forall_const, not_false_eq_true, false_implies, not_true_eq_false, reduceCtorEq, tl_s, tl_n, rf_s, true_or, or_true, hc5, r1, r2, k4]
      refine ⟨2, 64, by omega, by omega, ?_⟩
      refine Law_same_c (by omega) w5 p5 l5 (fun h6 p6 l6 => ?_)
      refine B_Law_law_617 ?_
      simp only [wp_cons, wp_nil, List.getElem?_cons_zero, List.getElem?_cons_succ, List.set_cons_zero, List.set_cons_succ, s_ifCond_ne, p1_s, true_and, and_true, Nat.le_refl, true_implies, forall_const, not_false_eq_true, false_implies, not_true_eq_false, reduceCtorEq, tl_s, tl_n, rf_s, List.cons_append, List.nil_append, true_or, or_true, em]
      refine b_ne (by omega) (by omega) (fun cc => ?_) (fun cc => absurd cc (by omega))
      refine B_Law_law_622 ?_
      simp only [wp_cons, wp_nil, List.getElem?_cons_zero, List.getElem?_cons_succ, List.set_cons_zero, List.set_cons_succ, s_iinc, ldI_s, s1_0, s1_s, kx_i, kx_r, kx_s, kx_n, kx_l, kx_0, I_add, s_goto, true_and, and_true, Nat.le_refl, true_implies, forall_const, not_false_eq_true, false_implies, not_true_eq_false, reduceCtorEq, tl_s, tl_n, rf_s, List.cons_append, List.nil_append, true_or, or_true, em]
      exact ih (i + 1) W5 h6 li5 la5 (cs5 + 2) (ss5 + 64) _ _ _ _ _ _ _ _ (by omega) w5 p6 l6 pn5 (by omega) (by omega)
    have K62 : ∀ kd : Int, 0 ≤ kd ∧ kd < 14 → G Law_law 11 600000 7302250 cs ss 62 [some (.retAddr 0), some (.ref 0), some (.int (I li)), some (.int (I la)), some (.int (I (i : Int))), some (.int x), some (.int y), x7, x8, x9, x10, x11, x12] [.int (I kd)] h (fun r _ => r = some (.int (I 1))) := by
      intro kd hkd
      refine B_Law_law_62 ?_
      simp only [wp_cons, wp_nil, List.getElem?_cons_zero, List.getElem?_cons_succ, List.set_cons_zero, List.set_cons_succ, s_istore, p1_s, s1_0, s1_s, kx_i, kx_r, kx_s, kx_n, kx_l, kx_0, s_aload_n1, ldA_r, ldA_n, ldA_s, s_invokevirtual, rc_s, ob_s, List.drop_succ_cons, List.drop_zero, List.take_succ_cons, List.take_zero, List.reverse_cons, List.reverse_nil, List.nil_append, List.cons_append, List.length_cons, List.length_nil, d1, Int.reduceToNat, Nat.reduceAdd, Nat.reduceLeDiff, true_and, and_true, Nat.le_refl, true_implies, forall_const, not_false_eq_true, false_implies, not_true_eq_false, reduceCtorEq, tl_s, tl_n, rf_s, true_or, or_true, hc, q1, q2]
      refine Pens_strokes_c hp ?_
      rw [show (sp_strokes W).1 = (W.1.1.length : Int) from rfl]
      by_cases c1 : kd < 5
      · refine B_Law_law_68 ?_
        simp only [wp_cons, wp_nil, List.getElem?_cons_zero, List.getElem?_cons_succ, List.set_cons_zero, List.set_cons_succ, s_istore, p1_s, s1_0, s1_s, kx_i, kx_r, kx_s, kx_n, kx_l, kx_0, s_iload, ldI_s, s_iconst, s_if_icmp_lt, p2_s, true_and, and_true, Nat.le_refl, true_implies, forall_const, not_false_eq_true, false_implies, not_true_eq_false, reduceCtorEq, tl_s, tl_n, rf_s, List.cons_append, List.nil_append, true_or, or_true, hc, q1, q2]
        refine b_lt (by omega) (by omega) (fun cc => ?_) (fun cc => absurd cc (by omega))
        exact Law_pen w hp hl hpn (by omega) (by omega) K
      · by_cases c2 : W.1.1.length = 0
        · have e0 : (W.1.1.length : Int) = 0 := by omega
          have LP := Law_pen (kd := kd) (x := x) (y := y) w hp hl hpn (show cs ≤ 500000 by omega) (show ss ≤ 7000000 by omega) K (x9 := x9) (x10 := x10) (x11 := x11) (x12 := x12)
          rw [e0] at LP ⊢
          refine B_Law_law_68 ?_
          simp only [wp_cons, wp_nil, List.getElem?_cons_zero, List.getElem?_cons_succ, List.set_cons_zero, List.set_cons_succ, s_istore, p1_s, s1_0, s1_s, kx_i, kx_r, kx_s, kx_n, kx_l, kx_0, s_iload, ldI_s, s_iconst, s_if_icmp_lt, p2_s, true_and, and_true, Nat.le_refl, true_implies, forall_const, not_false_eq_true, false_implies, not_true_eq_false, reduceCtorEq, tl_s, tl_n, rf_s, List.cons_append, List.nil_append, true_or, or_true, hc, q1, q2]
          refine b_lt (by omega) (by omega) (fun cc => absurd cc (by omega)) (fun cc => ?_)
          refine B_Law_law_76 ?_
          simp only [wp_cons, wp_nil, List.getElem?_cons_zero, List.getElem?_cons_succ, List.set_cons_zero, List.set_cons_succ, s_iload, ldI_s, s_ifCond_ne, p1_s, true_and, and_true, Nat.le_refl, true_implies, forall_const, not_false_eq_true, false_implies, not_true_eq_false, reduceCtorEq, tl_s, tl_n, rf_s, List.cons_append, List.nil_append, true_or, or_true, hc, q1, q2]
          exact LP
        · refine B_Law_law_68 ?_
          simp only [wp_cons, wp_nil, List.getElem?_cons_zero, List.getElem?_cons_succ, List.set_cons_zero, List.set_cons_succ, s_istore, p1_s, s1_0, s1_s, kx_i, kx_r, kx_s, kx_n, kx_l, kx_0, s_iload, ldI_s, s_iconst, s_if_icmp_lt, p2_s, true_and, and_true, Nat.le_refl, true_implies, forall_const, not_false_eq_true, false_implies, not_true_eq_false, reduceCtorEq, tl_s, tl_n, rf_s, List.cons_append, List.nil_append, true_or, or_true, hc, q1, q2]
          refine b_lt (by omega) (by omega) (fun cc => absurd cc (by omega)) (fun cc => ?_)
          refine B_Law_law_76 ?_
          simp only [wp_cons, wp_nil, List.getElem?_cons_zero, List.getElem?_cons_succ, List.set_cons_zero, List.set_cons_succ, s_iload, ldI_s, s_ifCond_ne, p1_s, true_and, and_true, Nat.le_refl, true_implies, forall_const, not_false_eq_true, false_implies, not_true_eq_false, reduceCtorEq, tl_s, tl_n, rf_s, List.cons_append, List.nil_append, true_or, or_true, hc, q1, q2]
          refine b_ne (by omega) (by omega) (fun cc => ?_) (fun cc => absurd cc (by omega))
          exact Law_act w hp hl hpn (by omega) (by omega) K (by omega) (by omega)
    by_cases c : i < 14
    · refine B_Law_law_42 ?_
      simp only [wp_cons, wp_nil, List.getElem?_cons_zero, List.getElem?_cons_succ, List.set_cons_zero, List.set_cons_succ, s_istore, p1_s, s1_0, s1_s, kx_i, kx_r, kx_s, kx_n, kx_l, kx_0, s_iload, ldI_s, s_bipush, s_if_icmp_ge, p2_s, true_and, and_true, Nat.le_refl, true_implies, forall_const, not_false_eq_true, false_implies, not_true_eq_false, reduceCtorEq, tl_s, tl_n, rf_s, List.cons_append, List.nil_append, true_or, or_true, hc, q1, q2]
      refine b_le (by omega) (by omega) (fun cc => absurd cc (by omega)) (fun cc => ?_)
      refine B_Law_law_51 ?_
      simp only [wp_cons, wp_nil, List.getElem?_cons_zero, List.getElem?_cons_succ, List.set_cons_zero, List.set_cons_succ, s_iconst, s_goto, true_and, and_true, Nat.le_refl, true_implies, forall_const, not_false_eq_true, false_implies, not_true_eq_false, reduceCtorEq, tl_s, tl_n, rf_s, List.cons_append, List.nil_append, true_or, or_true, hc, q1, q2]
      exact K62 0 (by omega)
    · refine B_Law_law_42 ?_
      simp only [wp_cons, wp_nil, List.getElem?_cons_zero, List.getElem?_cons_succ, List.set_cons_zero, List.set_cons_succ, s_istore, p1_s, s1_0, s1_s, kx_i, kx_r, kx_s, kx_n, kx_l, kx_0, s_iload, ldI_s, s_bipush, s_if_icmp_ge, p2_s, true_and, and_true, Nat.le_refl, true_implies, forall_const, not_false_eq_true, false_implies, not_true_eq_false, reduceCtorEq, tl_s, tl_n, rf_s, List.cons_append, List.nil_append, true_or, or_true, hc, q1, q2]
      refine b_le (by omega) (by omega) (fun cc => ?_) (fun cc => absurd cc (by omega))
      refine B_Law_law_55 ?_
      simp only [wp_cons, wp_nil, List.getElem?_cons_zero, List.getElem?_cons_succ, List.set_cons_zero, List.set_cons_succ, s_iload, ldI_s, s_bipush, s_invokestatic, rc_s, ob_s, List.drop_succ_cons, List.drop_zero, List.take_succ_cons, List.take_zero, List.reverse_cons, List.reverse_nil, List.nil_append, List.cons_append, List.length_cons, List.length_nil, Nat.reduceEqDiff, eq_self, reduceIte, p1_s, p2_s, l1_s, d1, Int.reduceToNat, Nat.reduceAdd, Nat.reduceLeDiff, true_and, and_true, Nat.le_refl, true_implies, forall_const, not_false_eq_true, false_implies, not_true_eq_false, reduceCtorEq, tl_s, tl_n, rf_s, true_or, or_true, hc, q1, q2]
      refine Law_low_c (by omega) (fun kd h1 h2 => ?_)
      exact K62 kd (by omega)
theorem Law_body : G Law_law 11 600000 7302250 0 0 0 [some (.retAddr 0), none, none, none, none, none, none, none, none, none, none, none, none] [] [] (fun r _ => r = some (.int (I 1))) := by
  have d1 : 1 ≤ 11 := by omega
  have e0 : ([] ++ [ob 6 (g_dflt 6)] : g_H) = [ob 6 (g_dflt 6)] := rfl
  refine B_Law_law_0 ?_
  simp only [wp_cons, wp_nil, List.getElem?_cons_zero, List.getElem?_cons_succ, List.set_cons_zero, List.set_cons_succ, s_new, s_dup, p1v_i, p1v_r, s_invokespecial, pR_s, rc_s, List.drop_succ_cons, List.drop_zero, List.take_succ_cons, List.take_zero, List.reverse_cons, List.reverse_nil, List.nil_append, List.cons_append, List.length_cons, List.length_nil, Nat.reduceEqDiff, reduceIte, d1, Int.reduceToNat, Nat.reduceAdd, Nat.reduceLeDiff, true_and, and_true, Nat.le_refl, true_implies, forall_const, not_false_eq_true, false_implies, not_true_eq_false, reduceCtorEq, tl_s, tl_n, rf_s, true_or, or_true, e0]
  refine ⟨207, 3282, by omega, by omega, ?_⟩
  refine Pens_init_c (by omega) rfl rfl (fun h2 x2 p2 => ?_)
  have hl2 : h2.length = 208 := x2.1
  refine B_Law_law_7 ?_
  simp only [wp_cons, wp_nil, List.getElem?_cons_zero, List.getElem?_cons_succ, List.set_cons_zero, List.set_cons_succ, s_astore_n1, pA_r, pA_n, s1_0, s1_s, kx_i, kx_r, kx_s, kx_n, kx_l, kx_0, s_iconst, s_istore_n2, p1_s, s_istore_n3, s_istore, true_and, and_true, Nat.le_refl, true_implies, forall_const, not_false_eq_true, false_implies, not_true_eq_false, reduceCtorEq, tl_s, tl_n, rf_s, List.cons_append, List.nil_append, true_or, or_true, Nat.reduceAdd, Nat.reduceLeDiff, List.length_nil, e0]
  exact Law_loop 44 0 W0 h2 0 (-1) _ _ _ _ _ _ _ _ _ _ (by omega) kp_W0 p2 (by omega) ⟨rfl, fun q => by omega⟩ (by omega) (by omega)
