/-! ===== the law: same, what a stroke is asked ===== -/
theorem sp_of_lit {W : Wd} {s : Nat} (hs : s < W.1.1.length) : (sp_of W s 1).1 = sz (sg W.1.1 s).2 ∧ (sp_of W s 2).1 = lnF (sg W.1.1 s).1 (pcs (sg W.1.1 s)) ∧ (sp_of W s 3).1 = ((areaS (sg W.1.1 s)).natAbs : Int) ∧ (sp_of W s 4).1 = (if areaS (sg W.1.1 s) < 0 then -1 else if areaS (sg W.1.1 s) = 0 then 0 else 1) + 2 ∧ (sp_of W s 5).1 = sfS (sg W.1.1 s).1 (pcs (sg W.1.1 s)) :=
  ⟨sp_of_k (k := 1) hs (by omega), sp_of_k (k := 2) hs (by omega), sp_of_k (k := 3) hs (by omega), sp_of_k (k := 4) hs (by omega), (sp_of_k (k := 5) hs (by omega)).trans (sfS_ok _).symm⟩
theorem sp_of_bnd {W : Wd} {s : Nat} (hs : s < W.1.1.length) (w : wfS (sg W.1.1 s)) : (sp_of W s 6).1 = mxF false (fun i => pg (sg W.1.1 s).1 i / 1000) (sg W.1.1 s).1.length ∧ (sp_of W s 7).1 = mxF true (fun i => pg (sg W.1.1 s).1 i / 1000) (sg W.1.1 s).1.length ∧ (sp_of W s 8).1 = mxF false (fun i => pg (sg W.1.1 s).1 i % 1000) (sg W.1.1 s).1.length ∧ (sp_of W s 9).1 = mxF true (fun i => pg (sg W.1.1 s).1 i % 1000) (sg W.1.1 s).1.length := by
  obtain ⟨w1, w2, w3, w4, w5⟩ := w
  have hl : (sg W.1.1 s).1.length = (sg W.1.1 s).1.length - 1 + 1 := by omega
  have kx : ∀ z : Bool, bnf z (fun i => pg (sg W.1.1 s).1 i / 1000) ((sg W.1.1 s).1.length - 1) = mxF z (fun i => pg (sg W.1.1 s).1 i / 1000) (sg W.1.1 s).1.length := by
    intro z
    rw [mxF_ok z _ _ (fun i hi => by have := w3 i (by omega); show 0 ≤ pg _ i / 1000 ∧ pg _ i / 1000 ≤ 999; omega), ← hl]
  have ky : ∀ z : Bool, bnf z (fun i => pg (sg W.1.1 s).1 i % 1000) ((sg W.1.1 s).1.length - 1) = mxF z (fun i => pg (sg W.1.1 s).1 i % 1000) (sg W.1.1 s).1.length := by
    intro z
    rw [mxF_ok z _ _ (fun i hi => by show 0 ≤ pg _ i % 1000 ∧ pg _ i % 1000 ≤ 999; omega), ← hl]
  exact ⟨(sp_of_k (k := 6) hs (by omega)).trans (kx false), (sp_of_k (k := 7) hs (by omega)).trans (kx true), (sp_of_k (k := 8) hs (by omega)).trans (ky false), (sp_of_k (k := 9) hs (by omega)).trans (ky true)⟩
theorem sp_point_out {W : Wd} {s : Nat} : (sp_point W s ((sg W.1.1 s).1.length : Int)).1 = -1 := by
  unfold sp_point
  rw [if_pos]
  rw [tn_i]
  exact fun q => by have := q.2.2; omega
theorem sp_ins_cl {W : Wd} {s : Nat} {x y : Int} (hs : s < W.1.1.length) (hp : plc x y) (z : (sg W.1.1 s).2 = true) : (sp_ins W s x y).1 = inF (sg W.1.1 s).1 x y (pcs (sg W.1.1 s)) % 2 := by
  unfold sp_ins
  rw [if_neg (fun q => q ⟨by omega, by omega⟩), if_neg (fun q => q hp), tn_i, if_neg (by rw [z]; decide), insS_F z]
theorem sp_ins_op {W : Wd} {s : Nat} {x y : Int} (hs : s < W.1.1.length) (hp : plc x y) (z : ¬ (sg W.1.1 s).2 = true) : (sp_ins W s x y).1 = -3 := by
  unfold sp_ins
  rw [if_neg (fun q => q ⟨by omega, by omega⟩), if_neg (fun q => q hp), tn_i, if_pos (by simpa using z)]
theorem pens.at6 {h : g_H} {W : Wd} (q : pens h 0 W) : ∃ fs, h[0]? = some (.inr (.inr (6, fs))) := q.cl
set_option maxHeartbeats 4000000 in
theorem Same_checks {d : Nat} (hd : 10 ≤ d) {W : Wd} {a b s : Nat} {px py : Int} {h : g_H} {Q : g_Po} (w : wfW W) (hp : pens h 0 W) (hs : s < W.1.1.length) (hx : 0 ≤ px ∧ px < 130) (hy : 0 ≤ py ∧ py < 130) {z1 z2 z7 z8 z12 z21 : Int32} {x22 x23 x24 x25 x26 x27 : Option Value}
    (hO : G Law_same d 2 64 2 64 697 [some (.ref 0), some (.int z1), some (.int z2), some (.ref a), some (.ref b), some (.int (I px)), some (.int (I py)), some (.int z7), some (.int z8), some (.int (I (s : Int))), some (.int (I ((sg W.1.1 s).1.length : Int))), some (.int (I (sz (sg W.1.1 s).2))), some (.int z12), some (.int (I (lnF (sg W.1.1 s).1 (pcs (sg W.1.1 s))))), some (.int (I (arF (sg W.1.1 s).1 (pcs (sg W.1.1 s))))), some (.int (I (sfS (sg W.1.1 s).1 (pcs (sg W.1.1 s))))), some (.int (I (inF (sg W.1.1 s).1 px py (pcs (sg W.1.1 s))))), some (.int (I (mxF false (fun i => pg (sg W.1.1 s).1 i / 1000) (sg W.1.1 s).1.length))), some (.int (I (mxF true (fun i => pg (sg W.1.1 s).1 i / 1000) (sg W.1.1 s).1.length))), some (.int (I (mxF false (fun i => pg (sg W.1.1 s).1 i % 1000) (sg W.1.1 s).1.length))), some (.int (I (mxF true (fun i => pg (sg W.1.1 s).1 i % 1000) (sg W.1.1 s).1.length))), some (.int (I (areaS (sg W.1.1 s)))), some (.int (I 0)), x23, x24, x25, x26, x27] [] h Q) : G Law_same d 2 64 2 64 512 [some (.ref 0), some (.int z1), some (.int z2), some (.ref a), some (.ref b), some (.int (I px)), some (.int (I py)), some (.int z7), some (.int z8), some (.int (I (s : Int))), some (.int (I ((sg W.1.1 s).1.length : Int))), some (.int (I (sz (sg W.1.1 s).2))), some (.int z12), some (.int (I (lnF (sg W.1.1 s).1 (pcs (sg W.1.1 s))))), some (.int (I (arF (sg W.1.1 s).1 (pcs (sg W.1.1 s))))), some (.int (I (sfS (sg W.1.1 s).1 (pcs (sg W.1.1 s))))), some (.int (I (inF (sg W.1.1 s).1 px py (pcs (sg W.1.1 s))))), some (.int (I (mxF false (fun i => pg (sg W.1.1 s).1 i / 1000) (sg W.1.1 s).1.length))), some (.int (I (mxF true (fun i => pg (sg W.1.1 s).1 i / 1000) (sg W.1.1 s).1.length))), some (.int (I (mxF false (fun i => pg (sg W.1.1 s).1 i % 1000) (sg W.1.1 s).1.length))), some (.int (I (mxF true (fun i => pg (sg W.1.1 s).1 i % 1000) (sg W.1.1 s).1.length))), some (.int z21), x22, x23, x24, x25, x26, x27] [] h Q := by
  have d1 : 1 ≤ d := by omega
  have wl : W.1.1.length ≤ 10 := w.1.1.1
  have wS := w.1.1.2 s hs
  have w1 := wS.1
  have w2 := wS.2.1
  have w3 := wS.2.2.1
  have ar := area_bd w3 (by omega) w2
  obtain ⟨fs, hc⟩ := hp.at6
  obtain ⟨e1, e2, e3, e4, e5⟩ := sp_of_lit hs
  obtain ⟨e6, e7, e8, e9⟩ := sp_of_bnd hs wS
  have hpl : plc px py := by omega
  have bi9 := inF_bd (sg W.1.1 s).1 px py (pcs (sg W.1.1 s))
  have hpc : pcs (sg W.1.1 s) ≤ (sg W.1.1 s).1.length := pcs_le
  have K677 : ∀ z : Int, (sp_ins W s px py).1 = z → G Law_same d 2 64 2 64 677 [some (.ref 0), some (.int z1), some (.int z2), some (.ref a), some (.ref b), some (.int (I px)), some (.int (I py)), some (.int z7), some (.int z8), some (.int (I (s : Int))), some (.int (I ((sg W.1.1 s).1.length : Int))), some (.int (I (sz (sg W.1.1 s).2))), some (.int z12), some (.int (I (lnF (sg W.1.1 s).1 (pcs (sg W.1.1 s))))), some (.int (I (arF (sg W.1.1 s).1 (pcs (sg W.1.1 s))))), some (.int (I (sfS (sg W.1.1 s).1 (pcs (sg W.1.1 s))))), some (.int (I (inF (sg W.1.1 s).1 px py (pcs (sg W.1.1 s))))), some (.int (I (mxF false (fun i => pg (sg W.1.1 s).1 i / 1000) (sg W.1.1 s).1.length))), some (.int (I (mxF true (fun i => pg (sg W.1.1 s).1 i / 1000) (sg W.1.1 s).1.length))), some (.int (I (mxF false (fun i => pg (sg W.1.1 s).1 i % 1000) (sg W.1.1 s).1.length))), some (.int (I (mxF true (fun i => pg (sg W.1.1 s).1 i % 1000) (sg W.1.1 s).1.length))), some (.int (I (areaS (sg W.1.1 s)))), x22, x23, x24, x25, x26, x27] [.int (I z), .int (I (sp_ins W s px py).1)] h Q := by
    intro z hz
    rw [hz]
    refine B_Law_same_677 ?_
    simp only [wp_cons, wp_nil, List.getElem?_cons_zero, List.getElem?_cons_succ, List.set_cons_zero, List.set_cons_succ, s_if_icmp_ne, p2_s, true_and, and_true, Nat.le_refl, true_implies, forall_const, not_false_eq_true, false_implies, not_true_eq_false, reduceCtorEq, tl_s, tl_n, rf_s, List.cons_append, List.nil_append, true_or, or_true, hc]
    refine B_Law_same_680 ?_
    simp only [wp_cons, wp_nil, List.getElem?_cons_zero, List.getElem?_cons_succ, List.set_cons_zero, List.set_cons_succ, s_aload_n0, ldA_r, ldA_n, ldA_s, s_iload, ldI_s, s_invokevirtual, rc_s, ob_s, List.drop_succ_cons, List.drop_zero, List.take_succ_cons, List.take_zero, List.reverse_cons, List.reverse_nil, List.nil_append, List.cons_append, List.length_cons, List.length_nil, d1, Int.reduceToNat, Nat.reduceAdd, Nat.reduceLeDiff, true_and, and_true, Nat.le_refl, true_implies, forall_const, not_false_eq_true, false_implies, not_true_eq_false, reduceCtorEq, tl_s, tl_n, rf_s, true_or, or_true, hc]
    refine Pens_point_c (by omega) w hp (by omega) (by omega) ?_
    rw [sp_point_out]
    refine B_Law_same_688 ?_
    simp only [wp_cons, wp_nil, List.getElem?_cons_zero, List.getElem?_cons_succ, List.set_cons_zero, List.set_cons_succ, s_iconst, s_if_icmp_eq, p2_s, true_and, and_true, Nat.le_refl, true_implies, forall_const, not_false_eq_true, false_implies, not_true_eq_false, reduceCtorEq, tl_s, tl_n, rf_s, List.cons_append, List.nil_append, true_or, or_true, hc]
    refine B_Law_same_694 ?_
    simp only [wp_cons, wp_nil, List.getElem?_cons_zero, List.getElem?_cons_succ, List.set_cons_zero, List.set_cons_succ, s_iconst, s_istore, p1_s, s1_0, s1_s, kx_i, kx_r, kx_s, kx_n, kx_l, kx_0, true_and, and_true, Nat.le_refl, true_implies, forall_const, not_false_eq_true, false_implies, not_true_eq_false, reduceCtorEq, tl_s, tl_n, rf_s, List.cons_append, List.nil_append, true_or, or_true, hc]
    exact hO
  have K589 : G Law_same d 2 64 2 64 589 [some (.ref 0), some (.int z1), some (.int z2), some (.ref a), some (.ref b), some (.int (I px)), some (.int (I py)), some (.int z7), some (.int z8), some (.int (I (s : Int))), some (.int (I ((sg W.1.1 s).1.length : Int))), some (.int (I (sz (sg W.1.1 s).2))), some (.int z12), some (.int (I (lnF (sg W.1.1 s).1 (pcs (sg W.1.1 s))))), some (.int (I (arF (sg W.1.1 s).1 (pcs (sg W.1.1 s))))), some (.int (I (sfS (sg W.1.1 s).1 (pcs (sg W.1.1 s))))), some (.int (I (inF (sg W.1.1 s).1 px py (pcs (sg W.1.1 s))))), some (.int (I (mxF false (fun i => pg (sg W.1.1 s).1 i / 1000) (sg W.1.1 s).1.length))), some (.int (I (mxF true (fun i => pg (sg W.1.1 s).1 i / 1000) (sg W.1.1 s).1.length))), some (.int (I (mxF false (fun i => pg (sg W.1.1 s).1 i % 1000) (sg W.1.1 s).1.length))), some (.int (I (mxF true (fun i => pg (sg W.1.1 s).1 i % 1000) (sg W.1.1 s).1.length))), some (.int (I (areaS (sg W.1.1 s)))), x22, x23, x24, x25, x26, x27] [] h Q := by
    refine B_Law_same_589 ?_
    simp only [wp_cons, wp_nil, List.getElem?_cons_zero, List.getElem?_cons_succ, List.set_cons_zero, List.set_cons_succ, s_aload_n0, ldA_r, ldA_n, ldA_s, s_iload, ldI_s, s_iconst, s_invokevirtual, rc_s, ob_s, List.drop_succ_cons, List.drop_zero, List.take_succ_cons, List.take_zero, List.reverse_cons, List.reverse_nil, List.nil_append, List.cons_append, List.length_cons, List.length_nil, d1, Int.reduceToNat, Nat.reduceAdd, Nat.reduceLeDiff, true_and, and_true, Nat.le_refl, true_implies, forall_const, not_false_eq_true, false_implies, not_true_eq_false, reduceCtorEq, tl_s, tl_n, rf_s, true_or, or_true, hc]
    refine Pens_of_c (by omega) w hp (by omega) (by omega) ?_
    rw [e5]
    refine B_Law_same_596 ?_
    simp only [wp_cons, wp_nil, List.getElem?_cons_zero, List.getElem?_cons_succ, List.set_cons_zero, List.set_cons_succ, s_iload, ldI_s, s_if_icmp_ne, p2_s, true_and, and_true, Nat.le_refl, true_implies, forall_const, not_false_eq_true, false_implies, not_true_eq_false, reduceCtorEq, tl_s, tl_n, rf_s, List.cons_append, List.nil_append, true_or, or_true, hc]
    refine B_Law_same_601 ?_
    simp only [wp_cons, wp_nil, List.getElem?_cons_zero, List.getElem?_cons_succ, List.set_cons_zero, List.set_cons_succ, s_aload_n0, ldA_r, ldA_n, ldA_s, s_iload, ldI_s, s_bipush, s_invokevirtual, rc_s, ob_s, List.drop_succ_cons, List.drop_zero, List.take_succ_cons, List.take_zero, List.reverse_cons, List.reverse_nil, List.nil_append, List.cons_append, List.length_cons, List.length_nil, d1, Int.reduceToNat, Nat.reduceAdd, Nat.reduceLeDiff, true_and, and_true, Nat.le_refl, true_implies, forall_const, not_false_eq_true, false_implies, not_true_eq_false, reduceCtorEq, tl_s, tl_n, rf_s, true_or, or_true, hc]
    refine Pens_of_c (by omega) w hp (by omega) (by omega) ?_
    rw [e6]
    refine B_Law_same_609 ?_
    simp only [wp_cons, wp_nil, List.getElem?_cons_zero, List.getElem?_cons_succ, List.set_cons_zero, List.set_cons_succ, s_iload, ldI_s, s_if_icmp_ne, p2_s, true_and, and_true, Nat.le_refl, true_implies, forall_const, not_false_eq_true, false_implies, not_true_eq_false, reduceCtorEq, tl_s, tl_n, rf_s, List.cons_append, List.nil_append, true_or, or_true, hc]
    refine B_Law_same_614 ?_
    simp only [wp_cons, wp_nil, List.getElem?_cons_zero, List.getElem?_cons_succ, List.set_cons_zero, List.set_cons_succ, s_aload_n0, ldA_r, ldA_n, ldA_s, s_iload, ldI_s, s_bipush, s_invokevirtual, rc_s, ob_s, List.drop_succ_cons, List.drop_zero, List.take_succ_cons, List.take_zero, List.reverse_cons, List.reverse_nil, List.nil_append, List.cons_append, List.length_cons, List.length_nil, d1, Int.reduceToNat, Nat.reduceAdd, Nat.reduceLeDiff, true_and, and_true, Nat.le_refl, true_implies, forall_const, not_false_eq_true, false_implies, not_true_eq_false, reduceCtorEq, tl_s, tl_n, rf_s, true_or, or_true, hc]
    refine Pens_of_c (by omega) w hp (by omega) (by omega) ?_
    rw [e7]
    refine B_Law_same_622 ?_
    simp only [wp_cons, wp_nil, List.getElem?_cons_zero, List.getElem?_cons_succ, List.set_cons_zero, List.set_cons_succ, s_iload, ldI_s, s_if_icmp_ne, p2_s, true_and, and_true, Nat.le_refl, true_implies, forall_const, not_false_eq_true, false_implies, not_true_eq_false, reduceCtorEq, tl_s, tl_n, rf_s, List.cons_append, List.nil_append, true_or, or_true, hc]
    refine B_Law_same_627 ?_
    simp only [wp_cons, wp_nil, List.getElem?_cons_zero, List.getElem?_cons_succ, List.set_cons_zero, List.set_cons_succ, s_aload_n0, ldA_r, ldA_n, ldA_s, s_iload, ldI_s, s_bipush, s_invokevirtual, rc_s, ob_s, List.drop_succ_cons, List.drop_zero, List.take_succ_cons, List.take_zero, List.reverse_cons, List.reverse_nil, List.nil_append, List.cons_append, List.length_cons, List.length_nil, d1, Int.reduceToNat, Nat.reduceAdd, Nat.reduceLeDiff, true_and, and_true, Nat.le_refl, true_implies, forall_const, not_false_eq_true, false_implies, not_true_eq_false, reduceCtorEq, tl_s, tl_n, rf_s, true_or, or_true, hc]
    refine Pens_of_c (by omega) w hp (by omega) (by omega) ?_
    rw [e8]
    refine B_Law_same_635 ?_
    simp only [wp_cons, wp_nil, List.getElem?_cons_zero, List.getElem?_cons_succ, List.set_cons_zero, List.set_cons_succ, s_iload, ldI_s, s_if_icmp_ne, p2_s, true_and, and_true, Nat.le_refl, true_implies, forall_const, not_false_eq_true, false_implies, not_true_eq_false, reduceCtorEq, tl_s, tl_n, rf_s, List.cons_append, List.nil_append, true_or, or_true, hc]
    refine B_Law_same_640 ?_
    simp only [wp_cons, wp_nil, List.getElem?_cons_zero, List.getElem?_cons_succ, List.set_cons_zero, List.set_cons_succ, s_aload_n0, ldA_r, ldA_n, ldA_s, s_iload, ldI_s, s_bipush, s_invokevirtual, rc_s, ob_s, List.drop_succ_cons, List.drop_zero, List.take_succ_cons, List.take_zero, List.reverse_cons, List.reverse_nil, List.nil_append, List.cons_append, List.length_cons, List.length_nil, d1, Int.reduceToNat, Nat.reduceAdd, Nat.reduceLeDiff, true_and, and_true, Nat.le_refl, true_implies, forall_const, not_false_eq_true, false_implies, not_true_eq_false, reduceCtorEq, tl_s, tl_n, rf_s, true_or, or_true, hc]
    refine Pens_of_c (by omega) w hp (by omega) (by omega) ?_
    rw [e9]
    refine B_Law_same_648 ?_
    simp only [wp_cons, wp_nil, List.getElem?_cons_zero, List.getElem?_cons_succ, List.set_cons_zero, List.set_cons_succ, s_iload, ldI_s, s_if_icmp_ne, p2_s, true_and, and_true, Nat.le_refl, true_implies, forall_const, not_false_eq_true, false_implies, not_true_eq_false, reduceCtorEq, tl_s, tl_n, rf_s, List.cons_append, List.nil_append, true_or, or_true, hc]
    refine B_Law_same_653 ?_
    simp only [wp_cons, wp_nil, List.getElem?_cons_zero, List.getElem?_cons_succ, List.set_cons_zero, List.set_cons_succ, s_aload_n0, ldA_r, ldA_n, ldA_s, s_iload, ldI_s, s_invokevirtual, rc_s, ob_s, List.drop_succ_cons, List.drop_zero, List.take_succ_cons, List.take_zero, List.reverse_cons, List.reverse_nil, List.nil_append, List.cons_append, List.length_cons, List.length_nil, d1, Int.reduceToNat, Nat.reduceAdd, Nat.reduceLeDiff, true_and, and_true, Nat.le_refl, true_implies, forall_const, not_false_eq_true, false_implies, not_true_eq_false, reduceCtorEq, tl_s, tl_n, rf_s, true_or, or_true, hc]
    refine Pens_ins_c (by omega) w hp (by omega) (by omega) (by omega) ?_
    by_cases z : (sg W.1.1 s).2 = true
    · have ez : sz (sg W.1.1 s).2 = 1 := if_pos z
      have em : I (inF (sg W.1.1 s).1 px py (pcs (sg W.1.1 s))) - I (inF (sg W.1.1 s).1 px py (pcs (sg W.1.1 s))) / I 2 * I 2 = I (inF (sg W.1.1 s).1 px py (pcs (sg W.1.1 s)) % 2) := by
        rw [I_div (by omega) (by omega), Int.tdiv_eq_ediv_of_nonneg (by omega), I_mul, I_sub]; congr 1; omega
      rw [ez] at K677 ⊢
      refine B_Law_same_663 ?_
      simp only [wp_cons, wp_nil, List.getElem?_cons_zero, List.getElem?_cons_succ, List.set_cons_zero, List.set_cons_succ, s_iload, ldI_s, s_ifCond_eq, p1_s, true_and, and_true, Nat.le_refl, true_implies, forall_const, not_false_eq_true, false_implies, not_true_eq_false, reduceCtorEq, tl_s, tl_n, rf_s, List.cons_append, List.nil_append, true_or, or_true, hc, em]
      refine b_eq (by omega) (by omega) (fun cc => absurd cc (by omega)) (fun cc => ?_)
      refine B_Law_same_668 ?_
      simp only [wp_cons, wp_nil, List.getElem?_cons_zero, List.getElem?_cons_succ, List.set_cons_zero, List.set_cons_succ, s_iload, ldI_s, s_iconst, s_irem, p2_s, ne_k1000, ne_k2, s_goto, true_and, and_true, Nat.le_refl, true_implies, forall_const, not_false_eq_true, false_implies, not_true_eq_false, reduceCtorEq, tl_s, tl_n, rf_s, List.cons_append, List.nil_append, true_or, or_true, hc, em]
      exact K677 _ (sp_ins_cl hs hpl z)
    · have ez : sz (sg W.1.1 s).2 = 0 := if_neg z
      rw [ez] at K677 ⊢
      refine B_Law_same_663 ?_
      simp only [wp_cons, wp_nil, List.getElem?_cons_zero, List.getElem?_cons_succ, List.set_cons_zero, List.set_cons_succ, s_iload, ldI_s, s_ifCond_eq, p1_s, true_and, and_true, Nat.le_refl, true_implies, forall_const, not_false_eq_true, false_implies, not_true_eq_false, reduceCtorEq, tl_s, tl_n, rf_s, List.cons_append, List.nil_append, true_or, or_true, hc]
      refine B_Law_same_675 ?_
      simp only [wp_cons, wp_nil, List.getElem?_cons_zero, List.getElem?_cons_succ, List.set_cons_zero, List.set_cons_succ, s_bipush, true_and, and_true, Nat.le_refl, true_implies, forall_const, not_false_eq_true, false_implies, not_true_eq_false, reduceCtorEq, tl_s, tl_n, rf_s, List.cons_append, List.nil_append, true_or, or_true, hc]
      exact K677 _ (sp_ins_op hs hpl z)
  have K523 : G Law_same d 2 64 2 64 523 [some (.ref 0), some (.int z1), some (.int z2), some (.ref a), some (.ref b), some (.int (I px)), some (.int (I py)), some (.int z7), some (.int z8), some (.int (I (s : Int))), some (.int (I ((sg W.1.1 s).1.length : Int))), some (.int (I (sz (sg W.1.1 s).2))), some (.int z12), some (.int (I (lnF (sg W.1.1 s).1 (pcs (sg W.1.1 s))))), some (.int (I (arF (sg W.1.1 s).1 (pcs (sg W.1.1 s))))), some (.int (I (sfS (sg W.1.1 s).1 (pcs (sg W.1.1 s))))), some (.int (I (inF (sg W.1.1 s).1 px py (pcs (sg W.1.1 s))))), some (.int (I (mxF false (fun i => pg (sg W.1.1 s).1 i / 1000) (sg W.1.1 s).1.length))), some (.int (I (mxF true (fun i => pg (sg W.1.1 s).1 i / 1000) (sg W.1.1 s).1.length))), some (.int (I (mxF false (fun i => pg (sg W.1.1 s).1 i % 1000) (sg W.1.1 s).1.length))), some (.int (I (mxF true (fun i => pg (sg W.1.1 s).1 i % 1000) (sg W.1.1 s).1.length))), some (.int z21), x22, x23, x24, x25, x26, x27] [(.int (I (areaS (sg W.1.1 s))))] h Q := by
    refine B_Law_same_523 ?_
    simp only [wp_cons, wp_nil, List.getElem?_cons_zero, List.getElem?_cons_succ, List.set_cons_zero, List.set_cons_succ, s_istore, p1_s, s1_0, s1_s, kx_i, kx_r, kx_s, kx_n, kx_l, kx_0, s_aload_n0, ldA_r, ldA_n, ldA_s, s_iload, ldI_s, s_iconst, s_invokevirtual, rc_s, ob_s, List.drop_succ_cons, List.drop_zero, List.take_succ_cons, List.take_zero, List.reverse_cons, List.reverse_nil, List.nil_append, List.cons_append, List.length_cons, List.length_nil, d1, Int.reduceToNat, Nat.reduceAdd, Nat.reduceLeDiff, true_and, and_true, Nat.le_refl, true_implies, forall_const, not_false_eq_true, false_implies, not_true_eq_false, reduceCtorEq, tl_s, tl_n, rf_s, true_or, or_true, hc]
    refine Pens_of_c (by omega) w hp (by omega) (by omega) ?_
    rw [e2]
    refine B_Law_same_532 ?_
    simp only [wp_cons, wp_nil, List.getElem?_cons_zero, List.getElem?_cons_succ, List.set_cons_zero, List.set_cons_succ, s_iload, ldI_s, s_if_icmp_ne, p2_s, true_and, and_true, Nat.le_refl, true_implies, forall_const, not_false_eq_true, false_implies, not_true_eq_false, reduceCtorEq, tl_s, tl_n, rf_s, List.cons_append, List.nil_append, true_or, or_true, hc]
    refine B_Law_same_537 ?_
    simp only [wp_cons, wp_nil, List.getElem?_cons_zero, List.getElem?_cons_succ, List.set_cons_zero, List.set_cons_succ, s_aload_n0, ldA_r, ldA_n, ldA_s, s_iload, ldI_s, s_iconst, s_invokevirtual, rc_s, ob_s, List.drop_succ_cons, List.drop_zero, List.take_succ_cons, List.take_zero, List.reverse_cons, List.reverse_nil, List.nil_append, List.cons_append, List.length_cons, List.length_nil, d1, Int.reduceToNat, Nat.reduceAdd, Nat.reduceLeDiff, true_and, and_true, Nat.le_refl, true_implies, forall_const, not_false_eq_true, false_implies, not_true_eq_false, reduceCtorEq, tl_s, tl_n, rf_s, true_or, or_true, hc]
    refine Pens_of_c (by omega) w hp (by omega) (by omega) ?_
    rw [e3]
    by_cases c1 : areaS (sg W.1.1 s) < 0
    · rw [if_pos c1] at e4
      rw [show ((areaS (sg W.1.1 s)).natAbs : Int) = -areaS (sg W.1.1 s) by omega]
      refine B_Law_same_544 ?_
      simp only [wp_cons, wp_nil, List.getElem?_cons_zero, List.getElem?_cons_succ, List.set_cons_zero, List.set_cons_succ, s_iload, ldI_s, s_ifCond_ge, p1_s, true_and, and_true, Nat.le_refl, true_implies, forall_const, not_false_eq_true, false_implies, not_true_eq_false, reduceCtorEq, tl_s, tl_n, rf_s, List.cons_append, List.nil_append, true_or, or_true, hc]
      refine b_le (by omega) (by omega) (fun cc => absurd cc (by omega)) (fun cc => ?_)
      refine B_Law_same_549 ?_
      simp only [wp_cons, wp_nil, List.getElem?_cons_zero, List.getElem?_cons_succ, List.set_cons_zero, List.set_cons_succ, s_iload, ldI_s, s_ineg, p1_s, I_neg, s_goto, true_and, and_true, Nat.le_refl, true_implies, forall_const, not_false_eq_true, false_implies, not_true_eq_false, reduceCtorEq, tl_s, tl_n, rf_s, List.cons_append, List.nil_append, true_or, or_true, hc]
      refine B_Law_same_557 ?_
      simp only [wp_cons, wp_nil, List.getElem?_cons_zero, List.getElem?_cons_succ, List.set_cons_zero, List.set_cons_succ, s_if_icmp_ne, p2_s, true_and, and_true, Nat.le_refl, true_implies, forall_const, not_false_eq_true, false_implies, not_true_eq_false, reduceCtorEq, tl_s, tl_n, rf_s, List.cons_append, List.nil_append, true_or, or_true, hc]
      refine B_Law_same_560 ?_
      simp only [wp_cons, wp_nil, List.getElem?_cons_zero, List.getElem?_cons_succ, List.set_cons_zero, List.set_cons_succ, s_aload_n0, ldA_r, ldA_n, ldA_s, s_iload, ldI_s, s_iconst, s_invokevirtual, rc_s, ob_s, List.drop_succ_cons, List.drop_zero, List.take_succ_cons, List.take_zero, List.reverse_cons, List.reverse_nil, List.nil_append, List.cons_append, List.length_cons, List.length_nil, d1, Int.reduceToNat, Nat.reduceAdd, Nat.reduceLeDiff, true_and, and_true, Nat.le_refl, true_implies, forall_const, not_false_eq_true, false_implies, not_true_eq_false, reduceCtorEq, tl_s, tl_n, rf_s, true_or, or_true, hc]
      refine Pens_of_c (by omega) w hp (by omega) (by omega) ?_
      rw [e4, show ((-1 : Int) + 2) = 1 from rfl]
      refine B_Law_same_567 ?_
      simp only [wp_cons, wp_nil, List.getElem?_cons_zero, List.getElem?_cons_succ, List.set_cons_zero, List.set_cons_succ, s_iload, ldI_s, s_ifCond_le, p1_s, true_and, and_true, Nat.le_refl, true_implies, forall_const, not_false_eq_true, false_implies, not_true_eq_false, reduceCtorEq, tl_s, tl_n, rf_s, List.cons_append, List.nil_append, true_or, or_true, hc]
      refine b_le (by omega) (by omega) (fun cc => ?_) (fun cc => absurd cc (by omega))
      refine B_Law_same_576 ?_
      simp only [wp_cons, wp_nil, List.getElem?_cons_zero, List.getElem?_cons_succ, List.set_cons_zero, List.set_cons_succ, s_iload, ldI_s, s_ifCond_ge, p1_s, true_and, and_true, Nat.le_refl, true_implies, forall_const, not_false_eq_true, false_implies, not_true_eq_false, reduceCtorEq, tl_s, tl_n, rf_s, List.cons_append, List.nil_append, true_or, or_true, hc]
      refine b_le (by omega) (by omega) (fun cc => absurd cc (by omega)) (fun cc => ?_)
      refine B_Law_same_581 ?_
      simp only [wp_cons, wp_nil, List.getElem?_cons_zero, List.getElem?_cons_succ, List.set_cons_zero, List.set_cons_succ, s_iconst, s_goto, true_and, and_true, Nat.le_refl, true_implies, forall_const, not_false_eq_true, false_implies, not_true_eq_false, reduceCtorEq, tl_s, tl_n, rf_s, List.cons_append, List.nil_append, true_or, or_true, hc]
      refine B_Law_same_586 ?_
      simp only [wp_cons, wp_nil, List.getElem?_cons_zero, List.getElem?_cons_succ, List.set_cons_zero, List.set_cons_succ, s_if_icmp_ne, p2_s, true_and, and_true, Nat.le_refl, true_implies, forall_const, not_false_eq_true, false_implies, not_true_eq_false, reduceCtorEq, tl_s, tl_n, rf_s, List.cons_append, List.nil_append, true_or, or_true, hc]
      exact K589
    · rw [if_neg c1] at e4
      rw [show ((areaS (sg W.1.1 s)).natAbs : Int) = areaS (sg W.1.1 s) by omega]
      refine B_Law_same_544 ?_
      simp only [wp_cons, wp_nil, List.getElem?_cons_zero, List.getElem?_cons_succ, List.set_cons_zero, List.set_cons_succ, s_iload, ldI_s, s_ifCond_ge, p1_s, true_and, and_true, Nat.le_refl, true_implies, forall_const, not_false_eq_true, false_implies, not_true_eq_false, reduceCtorEq, tl_s, tl_n, rf_s, List.cons_append, List.nil_append, true_or, or_true, hc]
      refine b_le (by omega) (by omega) (fun cc => ?_) (fun cc => absurd cc (by omega))
      refine B_Law_same_555 ?_
      simp only [wp_cons, wp_nil, List.getElem?_cons_zero, List.getElem?_cons_succ, List.set_cons_zero, List.set_cons_succ, s_iload, ldI_s, true_and, and_true, Nat.le_refl, true_implies, forall_const, not_false_eq_true, false_implies, not_true_eq_false, reduceCtorEq, tl_s, tl_n, rf_s, List.cons_append, List.nil_append, true_or, or_true, hc]
      refine B_Law_same_557 ?_
      simp only [wp_cons, wp_nil, List.getElem?_cons_zero, List.getElem?_cons_succ, List.set_cons_zero, List.set_cons_succ, s_if_icmp_ne, p2_s, true_and, and_true, Nat.le_refl, true_implies, forall_const, not_false_eq_true, false_implies, not_true_eq_false, reduceCtorEq, tl_s, tl_n, rf_s, List.cons_append, List.nil_append, true_or, or_true, hc]
      refine B_Law_same_560 ?_
      simp only [wp_cons, wp_nil, List.getElem?_cons_zero, List.getElem?_cons_succ, List.set_cons_zero, List.set_cons_succ, s_aload_n0, ldA_r, ldA_n, ldA_s, s_iload, ldI_s, s_iconst, s_invokevirtual, rc_s, ob_s, List.drop_succ_cons, List.drop_zero, List.take_succ_cons, List.take_zero, List.reverse_cons, List.reverse_nil, List.nil_append, List.cons_append, List.length_cons, List.length_nil, d1, Int.reduceToNat, Nat.reduceAdd, Nat.reduceLeDiff, true_and, and_true, Nat.le_refl, true_implies, forall_const, not_false_eq_true, false_implies, not_true_eq_false, reduceCtorEq, tl_s, tl_n, rf_s, true_or, or_true, hc]
      refine Pens_of_c (by omega) w hp (by omega) (by omega) ?_
      by_cases c2 : areaS (sg W.1.1 s) = 0
      · rw [if_pos c2] at e4
        rw [e4, show ((0 : Int) + 2) = 2 from rfl]
        refine B_Law_same_567 ?_
        simp only [wp_cons, wp_nil, List.getElem?_cons_zero, List.getElem?_cons_succ, List.set_cons_zero, List.set_cons_succ, s_iload, ldI_s, s_ifCond_le, p1_s, true_and, and_true, Nat.le_refl, true_implies, forall_const, not_false_eq_true, false_implies, not_true_eq_false, reduceCtorEq, tl_s, tl_n, rf_s, List.cons_append, List.nil_append, true_or, or_true, hc]
        refine b_le (by omega) (by omega) (fun cc => ?_) (fun cc => absurd cc (by omega))
        refine B_Law_same_576 ?_
        simp only [wp_cons, wp_nil, List.getElem?_cons_zero, List.getElem?_cons_succ, List.set_cons_zero, List.set_cons_succ, s_iload, ldI_s, s_ifCond_ge, p1_s, true_and, and_true, Nat.le_refl, true_implies, forall_const, not_false_eq_true, false_implies, not_true_eq_false, reduceCtorEq, tl_s, tl_n, rf_s, List.cons_append, List.nil_append, true_or, or_true, hc]
        refine b_le (by omega) (by omega) (fun cc => ?_) (fun cc => absurd cc (by omega))
        refine B_Law_same_585 ?_
        simp only [wp_cons, wp_nil, List.getElem?_cons_zero, List.getElem?_cons_succ, List.set_cons_zero, List.set_cons_succ, s_iconst, true_and, and_true, Nat.le_refl, true_implies, forall_const, not_false_eq_true, false_implies, not_true_eq_false, reduceCtorEq, tl_s, tl_n, rf_s, List.cons_append, List.nil_append, true_or, or_true, hc]
        refine B_Law_same_586 ?_
        simp only [wp_cons, wp_nil, List.getElem?_cons_zero, List.getElem?_cons_succ, List.set_cons_zero, List.set_cons_succ, s_if_icmp_ne, p2_s, true_and, and_true, Nat.le_refl, true_implies, forall_const, not_false_eq_true, false_implies, not_true_eq_false, reduceCtorEq, tl_s, tl_n, rf_s, List.cons_append, List.nil_append, true_or, or_true, hc]
        exact K589
      · rw [if_neg c2] at e4
        rw [e4, show ((1 : Int) + 2) = 3 from rfl]
        refine B_Law_same_567 ?_
        simp only [wp_cons, wp_nil, List.getElem?_cons_zero, List.getElem?_cons_succ, List.set_cons_zero, List.set_cons_succ, s_iload, ldI_s, s_ifCond_le, p1_s, true_and, and_true, Nat.le_refl, true_implies, forall_const, not_false_eq_true, false_implies, not_true_eq_false, reduceCtorEq, tl_s, tl_n, rf_s, List.cons_append, List.nil_append, true_or, or_true, hc]
        refine b_le (by omega) (by omega) (fun cc => absurd cc (by omega)) (fun cc => ?_)
        refine B_Law_same_572 ?_
        simp only [wp_cons, wp_nil, List.getElem?_cons_zero, List.getElem?_cons_succ, List.set_cons_zero, List.set_cons_succ, s_iconst, s_goto, true_and, and_true, Nat.le_refl, true_implies, forall_const, not_false_eq_true, false_implies, not_true_eq_false, reduceCtorEq, tl_s, tl_n, rf_s, List.cons_append, List.nil_append, true_or, or_true, hc]
        refine B_Law_same_586 ?_
        simp only [wp_cons, wp_nil, List.getElem?_cons_zero, List.getElem?_cons_succ, List.set_cons_zero, List.set_cons_succ, s_if_icmp_ne, p2_s, true_and, and_true, Nat.le_refl, true_implies, forall_const, not_false_eq_true, false_implies, not_true_eq_false, reduceCtorEq, tl_s, tl_n, rf_s, List.cons_append, List.nil_append, true_or, or_true, hc]
        exact K589
  by_cases z : (sg W.1.1 s).2 = true
  · have ez : sz (sg W.1.1 s).2 = 1 := if_pos z
    rw [ez] at K523 ⊢
    rw [areaS_cl z] at K523
    refine B_Law_same_512 ?_
    simp only [wp_cons, wp_nil, List.getElem?_cons_zero, List.getElem?_cons_succ, List.set_cons_zero, List.set_cons_succ, s_iload, ldI_s, s_ifCond_eq, p1_s, true_and, and_true, Nat.le_refl, true_implies, forall_const, not_false_eq_true, false_implies, not_true_eq_false, reduceCtorEq, tl_s, tl_n, rf_s, List.cons_append, List.nil_append, true_or, or_true, hc]
    refine b_eq (by omega) (by omega) (fun cc => absurd cc (by omega)) (fun cc => ?_)
    refine B_Law_same_517 ?_
    simp only [wp_cons, wp_nil, List.getElem?_cons_zero, List.getElem?_cons_succ, List.set_cons_zero, List.set_cons_succ, s_iload, ldI_s, s_goto, true_and, and_true, Nat.le_refl, true_implies, forall_const, not_false_eq_true, false_implies, not_true_eq_false, reduceCtorEq, tl_s, tl_n, rf_s, List.cons_append, List.nil_append, true_or, or_true, hc]
    exact K523
  · have ez : sz (sg W.1.1 s).2 = 0 := if_neg z
    rw [ez] at K523 ⊢
    rw [areaS_op z] at K523
    refine B_Law_same_512 ?_
    simp only [wp_cons, wp_nil, List.getElem?_cons_zero, List.getElem?_cons_succ, List.set_cons_zero, List.set_cons_succ, s_iload, ldI_s, s_ifCond_eq, p1_s, true_and, and_true, Nat.le_refl, true_implies, forall_const, not_false_eq_true, false_implies, not_true_eq_false, reduceCtorEq, tl_s, tl_n, rf_s, List.cons_append, List.nil_append, true_or, or_true, hc]
    refine B_Law_same_522 ?_
    simp only [wp_cons, wp_nil, List.getElem?_cons_zero, List.getElem?_cons_succ, List.set_cons_zero, List.set_cons_succ, s_iconst, true_and, and_true, Nat.le_refl, true_implies, forall_const, not_false_eq_true, false_implies, not_true_eq_false, reduceCtorEq, tl_s, tl_n, rf_s, List.cons_append, List.nil_append, true_or, or_true, hc]
    exact K523
