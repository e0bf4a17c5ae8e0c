/-! ===== the reference: ifWelded ===== -/
theorem mdl.r2 {h h' : g_H} {M : Nat} {r : Nat → Int} {A : Nat → Nat → Int} {G' : Nat → Int} (q : mdl h M r A) (c : chg (M + 2) (M + 2 + 1) h h') (e : h'[M + 2]? = some (.inl (0, 352, fun i => I (G' i)))) : mdl h' M r (fun n => if n = 2 then G' else A n) :=
  ⟨(c.at (by omega)).trans q.1, (c.at (by omega)).trans q.g1, e, (c.at (by omega)).trans q.g3, (c.at (by omega)).trans q.g4, (c.at (by omega)).trans q.g5, (c.at (by omega)).trans q.g6, (c.at (by omega)).trans q.g7, (c.at (by omega)).trans q.g8, (c.at (by omega)).trans q.g9⟩
theorem mdl.r1 {h h' : g_H} {M : Nat} {r : Nat → Int} {A : Nat → Nat → Int} {G' : Nat → Int} (q : mdl h M r A) (c : chg (M + 1) (M + 1 + 1) h h') (e : h'[M + 1]? = some (.inl (0, 352, fun i => I (G' i)))) : mdl h' M r (fun n => if n = 1 then G' else A n) :=
  ⟨(c.at (by omega)).trans q.1, e, (c.at (by omega)).trans q.g2, (c.at (by omega)).trans q.g3, (c.at (by omega)).trans q.g4, (c.at (by omega)).trans q.g5, (c.at (by omega)).trans q.g6, (c.at (by omega)).trans q.g7, (c.at (by omega)).trans q.g8, (c.at (by omega)).trans q.g9⟩
theorem weldF_wf {r : Int} {Ss : List Stk} (w : wfD Ss) : wfD (weldF r Ss).2 := (wit_ok _ _ _ w (weldF_ok w)).1
theorem joinF_wf {Ss : List Stk} (w : wfD Ss) : wfD (joinF Ss) := (joinF_ok w).elim (fun _ h => (jit_ok _ _ _ w h).1)
theorem Mdl_ifw_c {d M : Nat} (hd : 9 ≤ d) {W : Wd} {rr : Int} {h : g_H} {Q : g_Po} (w : wfW W) (hp : mrep h M W) (hr : i32 rr) (hQ : MQ9 M h Q (sp_ifw W rr)) : Call Model_ifWelded d 0 0 [.ref M, .int (I rr)] h Q := by
  have d1 : 1 ≤ d := by omega
  obtain ⟨⟨Ss, pn⟩, Hs, T, l⟩ := W
  obtain ⟨r, A, hm, ht⟩ := id hp
  have k0 := ex_ie (x := 0) (i := 0) (n := 352) rfl (by omega)
  unfold sp_ifw at hQ
  dsimp only at hQ
  refine Call.intro (by rfl) (Nat.le_of_ble_eq_true rfl) ?_
  refine G.eqL (L := [some (.ref _), some (.int _), none]) rfl ?_
  refine B_Model_ifWelded_0 ?_
  simp only [wp_cons, wp_nil, List.getElem?_cons_zero, List.getElem?_cons_succ, List.set_cons_zero, List.set_cons_succ, s_iload_n1, ldI_s, s_invokestatic, rc_s, ob_s, List.drop_succ_cons, List.drop_zero, List.take_succ_cons, List.take_zero, List.reverse_cons, List.reverse_nil, List.nil_append, List.cons_append, List.length_cons, List.length_nil, Nat.reduceEqDiff, reduceIte, p1_s, p2_s, l1_s, d1, Int.reduceToNat, Nat.reduceAdd, Nat.reduceLeDiff, true_and, and_true, Nat.le_refl, true_implies, forall_const, not_false_eq_true, false_implies, not_true_eq_false, reduceCtorEq, tl_s, tl_n, rf_s, true_or, or_true, hm.c]
  refine Mdl_isR_c (by omega) hr (fun c1 => ?_) (fun c1 => ?_)
  · rw [if_neg (fun q => q c1)] at hQ
    refine B_Model_ifWelded_4 ?_
    simp only [wp_cons, wp_nil, List.getElem?_cons_zero, List.getElem?_cons_succ, List.set_cons_zero, List.set_cons_succ, s_ifCond_ne, p1_s, true_and, and_true, Nat.le_refl, true_implies, forall_const, not_false_eq_true, false_implies, not_true_eq_false, reduceCtorEq, tl_s, tl_n, rf_s, List.cons_append, List.nil_append, true_or, or_true, hm.c]
    refine b_ne (by omega) (by omega) (fun cc => ?_) (fun cc => absurd cc (by omega))
    refine B_Model_ifWelded_10 ?_
    simp only [wp_cons, wp_nil, List.getElem?_cons_zero, List.getElem?_cons_succ, List.set_cons_zero, List.set_cons_succ, s_aload_n0, ldA_r, ldA_n, s_getfield, pR_s, ob_s, gt_s, s_iconst, s_invokestatic, rc_s, List.drop_succ_cons, List.drop_zero, List.take_succ_cons, List.take_zero, List.reverse_cons, List.reverse_nil, List.nil_append, List.cons_append, List.length_cons, List.length_nil, Nat.reduceEqDiff, reduceIte, p1_s, p2_s, l1_s, d1, Int.reduceToNat, Nat.reduceAdd, Nat.reduceLeDiff, true_and, and_true, Nat.le_refl, true_implies, forall_const, not_false_eq_true, false_implies, not_true_eq_false, reduceCtorEq, tl_s, tl_n, rf_s, true_or, or_true, hm.c]
    refine Mdl_copies_c (f := 0) (t := 0) hm.g1 hm.g2 (by omega) (by omega) (by omega) (by omega) (by omega) (fun h1 G1 c1' g1 e1 _ => ?_)
    have m1 := hm.r2 c1' g1
    have q1 : stR ((fun n => if n = 2 then G1 else A n) 1) (Ss, pn) := ht.1
    refine B_Model_ifWelded_23 ?_
    simp only [wp_cons, wp_nil, List.getElem?_cons_zero, List.getElem?_cons_succ, List.set_cons_zero, List.set_cons_succ, s_aload_n0, ldA_r, ldA_n, s_iload_n1, ldI_s, s_invokevirtual, rc_s, ob_s, List.drop_succ_cons, List.drop_zero, List.take_succ_cons, List.take_zero, List.reverse_cons, List.reverse_nil, List.nil_append, List.cons_append, List.length_cons, List.length_nil, d1, Int.reduceToNat, Nat.reduceAdd, Nat.reduceLeDiff, true_and, and_true, Nat.le_refl, true_implies, forall_const, not_false_eq_true, false_implies, not_true_eq_false, reduceCtorEq, tl_s, tl_n, rf_s, true_or, or_true, m1.c]
    refine Mdl_welds_c (by omega) m1 q1 w.g.1 w.g.2.1.1 c1 (fun h2 r2 A2 c2 m2 e3 e4 s2 => ?_)
    refine B_Model_ifWelded_28 ?_
    simp only [wp_cons, wp_nil, List.getElem?_cons_zero, List.getElem?_cons_succ, List.set_cons_zero, List.set_cons_succ, s_pop, p1v_i, p1v_r, s_aload_n0, ldA_r, ldA_n, s_invokevirtual, rc_s, ob_s, List.drop_succ_cons, List.drop_zero, List.take_succ_cons, List.take_zero, List.reverse_cons, List.reverse_nil, List.nil_append, List.cons_append, List.length_cons, List.length_nil, d1, Int.reduceToNat, Nat.reduceAdd, Nat.reduceLeDiff, true_and, and_true, Nat.le_refl, true_implies, forall_const, not_false_eq_true, false_implies, not_true_eq_false, reduceCtorEq, tl_s, tl_n, rf_s, true_or, or_true, m2.c]
    refine Mdl_jn_c (by omega) m2 s2 (weldF_wf w.g.1) w.g.2.1.1 (fun h3 r3 A3 c3 m3 e5 e6 s3 => ?_)
    have a0 : A3 1 0 = (joinF (weldF rr Ss).2).length := s3.1
    refine B_Model_ifWelded_33 ?_
    simp only [wp_cons, wp_nil, List.getElem?_cons_zero, List.getElem?_cons_succ, List.set_cons_zero, List.set_cons_succ, s_aload_n0, ldA_r, ldA_n, s_getfield, pR_s, ob_s, gt_s, s_iconst, s_iaload, iR_s, ia_s, s_istore_n2, p1_s, s1_0, s1_s, kx_i, kx_r, kx_n, kx_l, kx_0, s_invokestatic, rc_s, List.drop_succ_cons, List.drop_zero, List.take_succ_cons, List.take_zero, List.reverse_cons, List.reverse_nil, List.nil_append, List.cons_append, List.length_cons, List.length_nil, Nat.reduceEqDiff, reduceIte, p2_s, l1_s, d1, Int.reduceToNat, Nat.reduceAdd, Nat.reduceLeDiff, true_and, and_true, Nat.le_refl, true_implies, forall_const, not_false_eq_true, false_implies, not_true_eq_false, reduceCtorEq, tl_s, tl_n, rf_s, true_or, or_true, m3.c, m3.g1, a0, k0, ex_ie]
    refine Mdl_copies_c (f := 0) (t := 0) m3.g2 m3.g1 (by omega) (by omega) (by omega) (by omega) (by omega) (fun h4 G4 c4 g4 e7 _ => ?_)
    have m4 := m3.r1 c4 g4
    have eA : ∀ n, n ≠ 1 → n ≠ 2 → n ≠ 9 → (if n = 1 then G4 else A3 n) = A n := fun n h1 h2 h9 => by rw [if_neg h1, e6 n h1 h9, e4 n h1, if_neg h2]
    have eR : ∀ n, n ≠ 12 → n ≠ 13 → n ≠ 14 → r3 n = r n := fun n h1 h2 h3 => by rw [e5 n h1 h2 h3, e3 n h2 h3]
    refine B_Model_ifWelded_53 ?_
    simp only [wp_cons, wp_nil, List.getElem?_cons_zero, List.getElem?_cons_succ, List.set_cons_zero, List.set_cons_succ, s_iload_n2, ldI_s, s_ireturn, p1_s, rI_i, rI_z, rI_c, z_01, z_11, rt_Model_ifWelded, true_and, and_true, Nat.le_refl, true_implies, forall_const, not_false_eq_true, false_implies, not_true_eq_false, reduceCtorEq, tl_s, tl_n, rf_s, List.cons_append, List.nil_append, true_or, or_true, m4.c]
    refine hQ h4 (((((c1'.wd (lo' := M) (hi' := M + 10) (by omega) (by omega))).tr c2).tr c3).tr (c4.wd (by omega) (by omega))) ⟨_, _, m4, ht.s1 (A' := fun n => if n = 1 then G4 else A3 n) (s' := (Ss, pn)) (ht.1.cg (fun i hi => ?_) w.1) (fun n hn => eA n (by omega) (by omega) (by omega)) (eR 3 (by omega) (by omega) (by omega)) (eR 5 (by omega) (by omega) (by omega))⟩
    have x1 := e1 i hi
    have x2 := e7 i hi
    rw [Nat.zero_add] at x1 x2
    show G4 i = A 1 i
    rw [x2, e6 2 (by omega) (by omega), e4 2 (by omega)]
    exact x1
  · rw [if_pos c1] at hQ
    refine B_Model_ifWelded_4 ?_
    simp only [wp_cons, wp_nil, List.getElem?_cons_zero, List.getElem?_cons_succ, List.set_cons_zero, List.set_cons_succ, s_ifCond_ne, p1_s, true_and, and_true, Nat.le_refl, true_implies, forall_const, not_false_eq_true, false_implies, not_true_eq_false, reduceCtorEq, tl_s, tl_n, rf_s, List.cons_append, List.nil_append, true_or, or_true, hm.c]
    refine B_Model_ifWelded_7 ?_
    simp only [wp_cons, wp_nil, List.getElem?_cons_zero, List.getElem?_cons_succ, List.set_cons_zero, List.set_cons_succ, s_bipush, s_ireturn, p1_s, rI_i, rI_z, rI_c, z_01, z_11, rt_Model_ifWelded, true_and, and_true, Nat.le_refl, true_implies, forall_const, not_false_eq_true, false_implies, not_true_eq_false, reduceCtorEq, tl_s, tl_n, rf_s, List.cons_append, List.nil_append, true_or, or_true, hm.c]
    exact hQ h chg.rf hp
