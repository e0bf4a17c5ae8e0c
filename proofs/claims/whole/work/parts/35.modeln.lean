/-! ===== the reference: joinAll ===== -/
theorem Mdl_jn_c {d M : Nat} (d6 : 6 ≤ d) {Ss : List Stk} {pn : Stk} {r : Nat → Int} {A : Nat → Nat → Int} {h : g_H} {Q : g_Po} (hm : mdl h M r A) (hr : stR (A 1) (Ss, pn)) (w : wfD Ss) (hpn : pn.1.length ≤ 30)
    (hQ : ∀ h' r' A', chg M (M + 10) h h' → mdl h' M r' A' → (∀ n, n ≠ 12 → n ≠ 13 → n ≠ 14 → r' n = r n) → (∀ n, n ≠ 1 → n ≠ 9 → A' n = A n) → stR (A' 1) (joinF Ss, pn) → Q none h') : Call Model_joins d 0 0 [.ref M] h Q := by
  obtain ⟨k, hk⟩ := joinF_ok w
  refine Call.intro (by rfl) (Nat.le_of_ble_eq_true rfl) ?_
  refine G.eqL (L := [some (.ref _), none, none, none, none]) rfl ?_
  exact Mdl_joins_c (Ss := Ss) d6 hpn hQ k Ss h r A _ _ _ _ hk w chg.rf hm (fun n _ _ _ => rfl) (fun n _ _ => rfl) hr
theorem Mdl_join_c {d M : Nat} (hd : 9 ≤ d) {W : Wd} {h : g_H} {Q : g_Po} (w : wfW W) (hp : mrep h M W) (hQ : MQ9 M h Q (sp_join W)) : Call Model_joinAll d 0 0 [.ref M] h Q := by
  have d1 : 1 ≤ d := by omega
  obtain ⟨⟨Ss, pn⟩, Hs, T, l⟩ := W
  obtain ⟨r, A, hm, ht⟩ := id hp
  have k0 := ex_ie (x := 0) (i := 0) (n := 352) rfl (by omega)
  unfold sp_join at hQ
  dsimp only at hQ
  refine Call.intro (by rfl) (Nat.le_of_ble_eq_true rfl) ?_
  refine G.eqL (L := [some (.ref _)]) rfl ?_
  refine B_Model_joinAll_0 ?_
  simp only [wp_cons, wp_nil, List.getElem?_cons_zero, List.getElem?_cons_succ, List.set_cons_zero, List.set_cons_succ, s_aload_n0, ldA_r, ldA_n, s_invokevirtual, rc_s, ob_s, List.drop_succ_cons, List.drop_zero, List.take_succ_cons, List.take_zero, List.reverse_cons, List.reverse_nil, List.nil_append, List.cons_append, List.length_cons, List.length_nil, d1, Int.reduceToNat, Nat.reduceAdd, Nat.reduceLeDiff, true_and, and_true, Nat.le_refl, true_implies, forall_const, not_false_eq_true, false_implies, not_true_eq_false, reduceCtorEq, tl_s, tl_n, rf_s, true_or, or_true, hm.c]
  refine Mdl_rec_c (by omega) hm ht w (fun h1 r1 A1 c1' m1 e1 e2 s1 => ?_)
  refine B_Model_joinAll_4 ?_
  simp only [wp_cons, wp_nil, List.getElem?_cons_zero, List.getElem?_cons_succ, List.set_cons_zero, List.set_cons_succ, s_aload_n0, ldA_r, ldA_n, s_invokevirtual, rc_s, ob_s, List.drop_succ_cons, List.drop_zero, List.take_succ_cons, List.take_zero, List.reverse_cons, List.reverse_nil, List.nil_append, List.cons_append, List.length_cons, List.length_nil, d1, Int.reduceToNat, Nat.reduceAdd, Nat.reduceLeDiff, true_and, and_true, Nat.le_refl, true_implies, forall_const, not_false_eq_true, false_implies, not_true_eq_false, reduceCtorEq, tl_s, tl_n, rf_s, true_or, or_true, m1.c]
  refine Mdl_jn_c (by omega) m1 s1.1 w.g.1 w.g.2.1.1 (fun h2 r2 A2 c2 m2 e3 e4 s2 => ?_)
  have a0 : A2 1 0 = (joinF Ss).length := s2.1
  refine B_Model_joinAll_8 ?_
  simp only [wp_cons, wp_nil, List.getElem?_cons_zero, List.getElem?_cons_succ, List.set_cons_zero, List.set_cons_succ, s_aload_n0, ldA_r, ldA_n, s_getfield, pR_s, ob_s, gt_s, s_iconst, s_iaload, iR_s, ia_s, s_ireturn, p1_s, rI_i, rI_z, rI_c, z_01, z_11, rt_Model_joinAll, true_and, and_true, Nat.le_refl, true_implies, forall_const, not_false_eq_true, false_implies, not_true_eq_false, reduceCtorEq, tl_s, tl_n, rf_s, List.cons_append, List.nil_append, true_or, or_true, m2.c, m2.g1, a0, k0, ex_ie]
  exact hQ h2 (c1'.tr c2) ⟨_, _, m2, s1.s1 s2 (fun n hn => e4 n (by omega) (by omega)) (e3 3 (by omega) (by omega) (by omega)) (e3 5 (by omega) (by omega) (by omega))⟩
