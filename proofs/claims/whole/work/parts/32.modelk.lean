/-! ===== the reference: the welds of a call ===== -/
theorem eI_lt {Ss : List Stk} (w : wfD Ss) {e : Nat} (he : e < 2 * Ss.length) : eI Ss e < (sg Ss (e / 2)).1.length := by
  have := (w.2 (e / 2) (by omega)).1
  unfold eI
  split <;> omega
theorem stR.sete {f : Nat → Int} {Ss : List Stk} {pn : Stk} {e : Nat} {m : Int} (hr : stR f (Ss, pn)) (w : wfD Ss) (hpn : pn.1.length ≤ 30) (he : eo Ss e) : stR (ui f (34 + 32 * (e / 2) + eI Ss e) m) (sete Ss e m, pn) := by
  have hel := he.1
  have hi : e / 2 < Ss.length := by omega
  obtain ⟨t1, t2, t3⟩ := hr.st hi
  have hI := eI_lt w hel
  have w2 := (w.2 (e / 2) hi).2.1
  refine hr.lay (fun j hj => (w.2 j hj).2.1) hpn hi (fun j hj => ui_n _ _ (by omega)) ?_ ?_ (fun k hk => ?_)
  · rw [ui_n _ _ (by omega), t1, List.length_set]
  · rw [ui_n _ _ (by omega), t2]
  · rw [List.length_set] at hk
    rw [pg_set _ _ _ hI]
    by_cases c : k = eI Ss e
    · rw [if_pos c, c, ui_s]
    · rw [if_neg c, ui_n _ _ (by omega), t3 k hk]
theorem Mdl_welds_c {d M : Nat} {rr : Int} (d6 : 6 ≤ d) {Ss : List Stk} {pn : Stk} {r0 : Nat → Int} {A0 : Nat → Nat → Int} {h0 : g_H} {Q : g_Po} (hm0 : mdl h0 M r0 A0) (hr0 : stR (A0 1) (Ss, pn)) (w0 : wfD Ss) (hpn : pn.1.length ≤ 30) (hrr : 1 ≤ rr ∧ rr ≤ 999)
    (hQ : ∀ h' r' A', chg M (M + 10) h0 h' → mdl h' M r' A' → (∀ n, n ≠ 13 → n ≠ 14 → r' n = r0 n) → (∀ n, n ≠ 1 → A' n = A0 n) → stR (A' 1) ((weldF rr Ss).2, pn) → Q (some (.int (I ((weldF rr Ss).1 : Int)))) h') : Call Model_welds d 0 0 [.ref M, .int (I rr)] h0 Q := by
  have d1 : 1 ≤ d := by omega
  have loop : ∀ (k t : Nat) (Ts : List Stk) (h : g_H) (r : Nat → Int) (A : Nat → Nat → Int) (x3 : Option Value), wit rr k Ts (weldF rr Ss).2 → t + k = (weldF rr Ss).1 → wfD Ts → chg M (M + 10) h0 h → mdl h M r A → (∀ n, n ≠ 13 → n ≠ 14 → r n = r0 n) → (∀ n, n ≠ 1 → A n = A0 n) → stR (A 1) (Ts, pn) → G Model_welds d 0 0 0 0 2 [some (.ref M), some (.int (I rr)), some (.int (I (t : Int))), x3] [] h Q := by
    intro k
    induction k with
    | zero =>
      intro t Ts h r A x3 hk ht w hc hm e1 e2 hr
      refine B_Model_welds_2 ?_
      simp only [wp_cons, wp_nil, List.getElem?_cons_zero, List.getElem?_cons_succ, List.set_cons_zero, List.set_cons_succ, s_aload_n0, ldA_r, ldA_n, s_iload_n1, ldI_s, s_invokevirtual, rc_s, ob_s, List.drop_succ_cons, List.drop_zero, List.take_succ_cons, List.take_zero, List.reverse_cons, List.reverse_nil, List.nil_append, List.cons_append, List.length_cons, List.length_nil, d1, Int.reduceToNat, Nat.reduceAdd, Nat.reduceLeDiff, true_and, and_true, Nat.le_refl, true_implies, forall_const, not_false_eq_true, false_implies, not_true_eq_false, reduceCtorEq, tl_s, tl_n, rf_s, true_or, or_true, hm.c]
      refine Mdl_fw_c (by omega) hm hr w hrr (fun h' r' a b _ _ _ _ _ hb => absurd ⟨a, b, hb.1⟩ hk.2) (fun _ h1 r1 c1 m1 e3 => ?_)
      refine B_Model_welds_7 ?_
      simp only [wp_cons, wp_nil, List.getElem?_cons_zero, List.getElem?_cons_succ, List.set_cons_zero, List.set_cons_succ, s_ifCond_eq, p1_s, true_and, and_true, Nat.le_refl, true_implies, forall_const, not_false_eq_true, false_implies, not_true_eq_false, reduceCtorEq, tl_s, tl_n, rf_s, List.cons_append, List.nil_append, true_or, or_true, hm.c]
      refine B_Model_welds_78 ?_
      simp only [wp_cons, wp_nil, List.getElem?_cons_zero, List.getElem?_cons_succ, List.set_cons_zero, List.set_cons_succ, s_iload_n2, ldI_s, s_ireturn, p1_s, rI_i, rI_z, rI_c, z_01, z_11, rt_Model_welds, true_and, and_true, Nat.le_refl, true_implies, forall_const, not_false_eq_true, false_implies, not_true_eq_false, reduceCtorEq, tl_s, tl_n, rf_s, List.cons_append, List.nil_append, true_or, or_true, hm.c]
      rw [show t = (weldF rr Ss).1 by omega]
      refine hQ h1 r1 A (hc.tr (c1.wd (by omega) (by omega))) m1 (fun n h1 h2 => by rw [e3 n h1 h2, e1 n h1 h2]) e2 ?_
      rw [hk.1]
      exact hr
    | succ k ih =>
      intro t Ts h r A x3 hk ht w hc hm e1 e2 hr
      obtain ⟨a, b, hb, hk⟩ := hk
      refine B_Model_welds_2 ?_
      simp only [wp_cons, wp_nil, List.getElem?_cons_zero, List.getElem?_cons_succ, List.set_cons_zero, List.set_cons_succ, s_aload_n0, ldA_r, ldA_n, s_iload_n1, ldI_s, s_invokevirtual, rc_s, ob_s, List.drop_succ_cons, List.drop_zero, List.take_succ_cons, List.take_zero, List.reverse_cons, List.reverse_nil, List.nil_append, List.cons_append, List.length_cons, List.length_nil, d1, Int.reduceToNat, Nat.reduceAdd, Nat.reduceLeDiff, true_and, and_true, Nat.le_refl, true_implies, forall_const, not_false_eq_true, false_implies, not_true_eq_false, reduceCtorEq, tl_s, tl_n, rf_s, true_or, or_true, hm.c]
      refine Mdl_fw_c (by omega) hm hr w hrr (fun h1 r1 a' b' c1 m1 e3 q1 q2 hb' => ?_) (fun q => absurd ⟨a, b, hb.1⟩ q)
      obtain ⟨rfl, rfl⟩ := wb_un w hb hb'
      have hv := hb.1
      obtain ⟨w1, w2, o1⟩ := wap_ok w hv
      have p1 := wfD_e w hv.2.1
      have p2 := wfD_e w hv.2.2.1
      have ea := eI_lt w hv.2.1.1
      have eb := eI_lt w hv.2.2.1.1
      have la := (w.2 (a / 2) (by have := hv.2.1.1; omega)).2.1
      have lb := (w.2 (b / 2) (by have := hv.2.2.1.1; omega)).2.1
      refine B_Model_welds_7 ?_
      simp only [wp_cons, wp_nil, List.getElem?_cons_zero, List.getElem?_cons_succ, List.set_cons_zero, List.set_cons_succ, s_ifCond_eq, p1_s, true_and, and_true, Nat.le_refl, true_implies, forall_const, not_false_eq_true, false_implies, not_true_eq_false, reduceCtorEq, tl_s, tl_n, rf_s, List.cons_append, List.nil_append, true_or, or_true, m1.c, q1, q2, I_hlf (e := a) (by omega), I_hlf (e := b) (by omega)]
      refine b_eq (by omega) (by omega) (fun cc => absurd cc (by omega)) (fun cc => ?_)
      refine B_Model_welds_10 ?_
      simp only [wp_cons, wp_nil, List.getElem?_cons_zero, List.getElem?_cons_succ, List.set_cons_zero, List.set_cons_succ, s_aload_n0, ldA_r, ldA_n, s_getfield, pR_s, ob_s, gt_s, s_invokevirtual, rc_s, List.drop_succ_cons, List.drop_zero, List.take_succ_cons, List.take_zero, List.reverse_cons, List.reverse_nil, List.nil_append, List.cons_append, List.length_cons, List.length_nil, d1, Int.reduceToNat, Nat.reduceAdd, Nat.reduceLeDiff, true_and, and_true, Nat.le_refl, true_implies, forall_const, not_false_eq_true, false_implies, not_true_eq_false, reduceCtorEq, tl_s, tl_n, rf_s, true_or, or_true, m1.c, q1, q2, I_hlf (e := a) (by omega), I_hlf (e := b) (by omega)]
      refine Mdl_ep_c (by omega) m1 hr w hv.2.1.1 ?_
      refine B_Model_welds_18 ?_
      simp only [wp_cons, wp_nil, List.getElem?_cons_zero, List.getElem?_cons_succ, List.set_cons_zero, List.set_cons_succ, s_aload_n0, ldA_r, ldA_n, s_getfield, pR_s, ob_s, gt_s, s_invokevirtual, rc_s, List.drop_succ_cons, List.drop_zero, List.take_succ_cons, List.take_zero, List.reverse_cons, List.reverse_nil, List.nil_append, List.cons_append, List.length_cons, List.length_nil, d1, Int.reduceToNat, Nat.reduceAdd, Nat.reduceLeDiff, true_and, and_true, Nat.le_refl, true_implies, forall_const, not_false_eq_true, false_implies, not_true_eq_false, reduceCtorEq, tl_s, tl_n, rf_s, true_or, or_true, m1.c, q1, q2, I_hlf (e := a) (by omega), I_hlf (e := b) (by omega)]
      refine Mdl_ep_c (by omega) m1 hr w hv.2.2.1.1 ?_
      refine B_Model_welds_26 ?_
      simp only [wp_cons, wp_nil, List.getElem?_cons_zero, List.getElem?_cons_succ, List.set_cons_zero, List.set_cons_succ, s_invokestatic, rc_s, ob_s, List.drop_succ_cons, List.drop_zero, List.take_succ_cons, List.take_zero, List.reverse_cons, List.reverse_nil, List.nil_append, List.cons_append, List.length_cons, List.length_nil, Nat.reduceEqDiff, reduceIte, p1_s, p2_s, l1_s, d1, Int.reduceToNat, Nat.reduceAdd, Nat.reduceLeDiff, true_and, and_true, Nat.le_refl, true_implies, forall_const, not_false_eq_true, false_implies, not_true_eq_false, reduceCtorEq, tl_s, tl_n, rf_s, true_or, or_true, m1.c, q1, q2, I_hlf (e := a) (by omega), I_hlf (e := b) (by omega)]
      refine Mdl_mid_c (by omega) p1.2.1 p2.2.1 ?_
      refine B_Model_welds_29 ?_
      simp only [wp_cons, wp_nil, List.getElem?_cons_zero, List.getElem?_cons_succ, List.set_cons_zero, List.set_cons_succ, s_istore_n3, p1_s, s1_0, s1_s, kx_i, kx_r, kx_n, kx_l, kx_0, s_aload_n0, ldA_r, ldA_n, s_getfield, pR_s, ob_s, gt_s, s_iconst, s_idiv, p2_s, ne_k1000, ne_k2, s_invokevirtual, rc_s, List.drop_succ_cons, List.drop_zero, List.take_succ_cons, List.take_zero, List.reverse_cons, List.reverse_nil, List.nil_append, List.cons_append, List.length_cons, List.length_nil, d1, Int.reduceToNat, Nat.reduceAdd, Nat.reduceLeDiff, true_and, and_true, Nat.le_refl, true_implies, forall_const, not_false_eq_true, false_implies, not_true_eq_false, reduceCtorEq, tl_s, tl_n, rf_s, true_or, or_true, m1.c, q1, q2, I_hlf (e := a) (by omega), I_hlf (e := b) (by omega)]
      refine Mdl_eI_c (by omega) m1 hr w hv.2.1.1 ?_
      refine B_Model_welds_46 ?_
      simp only [wp_cons, wp_nil, List.getElem?_cons_zero, List.getElem?_cons_succ, List.set_cons_zero, List.set_cons_succ, s_iadd, p2_s, I_add, s_iload_n3, ldI_s, s_invokevirtual, rc_s, ob_s, List.drop_succ_cons, List.drop_zero, List.take_succ_cons, List.take_zero, List.reverse_cons, List.reverse_nil, List.nil_append, List.cons_append, List.length_cons, List.length_nil, d1, Int.reduceToNat, Nat.reduceAdd, Nat.reduceLeDiff, true_and, and_true, Nat.le_refl, true_implies, forall_const, not_false_eq_true, false_implies, not_true_eq_false, reduceCtorEq, tl_s, tl_n, rf_s, true_or, or_true, m1.c, q1, q2, I_hlf (e := a) (by omega), I_hlf (e := b) (by omega)]
      refine Mdl_set_c (j := 34 + 32 * (a / 2) + eI Ts a) m1 (by omega) (by omega) (fun h2 c2 m2 => ?_)
      have r2 := hr.sete (m := mid (ep Ts a) (ep Ts b)) w hpn hv.2.1
      have r2' : stR (ua A 1 (34 + 32 * (a / 2) + eI Ts a) (mid (ep Ts a) (ep Ts b)) 1) (sete Ts a (mid (ep Ts a) (ep Ts b)), pn) := by rw [ua_s]; exact r2
      have ei2 := sete_eI (mid (ep Ts a) (ep Ts b)) hv.2.1 b
      refine B_Model_welds_51 ?_
      simp only [wp_cons, wp_nil, List.getElem?_cons_zero, List.getElem?_cons_succ, List.set_cons_zero, List.set_cons_succ, s_aload_n0, ldA_r, ldA_n, s_getfield, pR_s, ob_s, gt_s, s_iconst, s_idiv, p2_s, ne_k1000, ne_k2, s_invokevirtual, rc_s, List.drop_succ_cons, List.drop_zero, List.take_succ_cons, List.take_zero, List.reverse_cons, List.reverse_nil, List.nil_append, List.cons_append, List.length_cons, List.length_nil, d1, Int.reduceToNat, Nat.reduceAdd, Nat.reduceLeDiff, true_and, and_true, Nat.le_refl, true_implies, forall_const, not_false_eq_true, false_implies, not_true_eq_false, reduceCtorEq, tl_s, tl_n, rf_s, true_or, or_true, m2.c, q1, q2, I_hlf (e := a) (by omega), I_hlf (e := b) (by omega)]
      refine Mdl_eI_c (by omega) m2 r2' w1 (by rw [sete_len]; exact hv.2.2.1.1) ?_
      rw [ei2]
      refine B_Model_welds_67 ?_
      simp only [wp_cons, wp_nil, List.getElem?_cons_zero, List.getElem?_cons_succ, List.set_cons_zero, List.set_cons_succ, s_iadd, p2_s, I_add, s_iload_n3, ldI_s, s_invokevirtual, rc_s, ob_s, List.drop_succ_cons, List.drop_zero, List.take_succ_cons, List.take_zero, List.reverse_cons, List.reverse_nil, List.nil_append, List.cons_append, List.length_cons, List.length_nil, d1, Int.reduceToNat, Nat.reduceAdd, Nat.reduceLeDiff, true_and, and_true, Nat.le_refl, true_implies, forall_const, not_false_eq_true, false_implies, not_true_eq_false, reduceCtorEq, tl_s, tl_n, rf_s, true_or, or_true, m2.c, q1, q2, I_hlf (e := a) (by omega), I_hlf (e := b) (by omega)]
      refine Mdl_set_c (j := 34 + 32 * (b / 2) + eI Ts b) m2 (by omega) (by omega) (fun h3 c3 m3 => ?_)
      have r3 := r2'.sete (m := mid (ep Ts a) (ep Ts b)) w1 hpn o1
      rw [ei2] at r3
      refine B_Model_welds_72 ?_
      simp only [wp_cons, wp_nil, List.getElem?_cons_zero, List.getElem?_cons_succ, List.set_cons_zero, List.set_cons_succ, s_iinc, ldI_s, s1_0, s1_s, kx_i, kx_r, kx_n, kx_l, kx_0, I_add, s_goto, true_and, and_true, Nat.le_refl, true_implies, forall_const, not_false_eq_true, false_implies, not_true_eq_false, reduceCtorEq, tl_s, tl_n, rf_s, List.cons_append, List.nil_append, true_or, or_true, m2.c, q1, q2, I_hlf (e := a) (by omega), I_hlf (e := b) (by omega)]
      refine ih (t + 1) _ h3 r1 _ _ hk (by omega) w2 (((hc.tr (c1.wd (by omega) (by omega))).tr c2).tr c3) m3 (fun n h1 h2 => by rw [e3 n h1 h2, e1 n h1 h2]) (fun n hn => by rw [ua_n _ _ _ hn, ua_n _ _ _ hn, e2 n hn]) ?_
      rw [ua_s]
      exact r3
  refine Call.intro (by rfl) (Nat.le_of_ble_eq_true rfl) ?_
  refine G.eqL (L := [some (.ref _), some (.int _), none, none]) rfl ?_
  refine B_Model_welds_0 ?_
  simp only [wp_cons, wp_nil, List.getElem?_cons_zero, List.getElem?_cons_succ, List.set_cons_zero, List.set_cons_succ, s_iconst, s_istore_n2, p1_s, s1_0, s1_s, kx_i, kx_r, kx_n, kx_l, kx_0, true_and, and_true, Nat.le_refl, true_implies, forall_const, not_false_eq_true, false_implies, not_true_eq_false, reduceCtorEq, tl_s, tl_n, rf_s, List.cons_append, List.nil_append, true_or, or_true]
  exact loop _ 0 Ss h0 r0 A0 _ (weldF_ok w0) (Nat.zero_add _) w0 chg.rf hm0 (fun n _ _ => rfl) (fun n _ => rfl) hr0
theorem Mdl_isR_c {d : Nat} (d1 : 1 ≤ d) {v : Int} {h : g_H} {Q : g_Po} (hv : i32 v) (hT : 1 ≤ v ∧ v ≤ 999 → Q (some (.int (I 1))) h) (hF : ¬ (1 ≤ v ∧ v ≤ 999) → Q (some (.int (I 0))) h) : Call Model_isReach d 0 0 [.int (I v)] h Q := by
  refine Call.intro (by rfl) (Nat.le_of_ble_eq_true rfl) ?_
  refine G.eqL (L := [some (.int _)]) rfl ?_
  refine B_Model_isReach_0 ?_
  simp only [wp_cons, wp_nil, List.getElem?_cons_zero, List.getElem?_cons_succ, List.set_cons_zero, List.set_cons_succ, s_iload_n0, ldI_s, s_iconst, s_sipush, s_invokestatic, rc_s, ob_s, List.drop_succ_cons, List.drop_zero, List.take_succ_cons, List.take_zero, List.reverse_cons, List.reverse_nil, List.nil_append, List.cons_append, List.length_cons, List.length_nil, Nat.reduceEqDiff, reduceIte, p1_s, p2_s, l1_s, d1, Int.reduceToNat, Nat.reduceAdd, Nat.reduceLeDiff, true_and, and_true, Nat.le_refl, true_implies, forall_const, not_false_eq_true, false_implies, not_true_eq_false, reduceCtorEq, tl_s, tl_n, rf_s, true_or, or_true]
  refine Mdl_within_c hv (by omega) (by omega) (fun c => ?_) (fun c => ?_)
  · refine B_Model_isReach_8 ?_
    simp only [wp_cons, wp_nil, List.getElem?_cons_zero, List.getElem?_cons_succ, List.set_cons_zero, List.set_cons_succ, s_ireturn, p1_s, rI_i, rI_z, rI_c, z_01, z_11, rt_Model_isReach, true_and, and_true, Nat.le_refl, true_implies, forall_const, not_false_eq_true, false_implies, not_true_eq_false, reduceCtorEq, tl_s, tl_n, rf_s, List.cons_append, List.nil_append, true_or, or_true]
    exact hT c
  · refine B_Model_isReach_8 ?_
    simp only [wp_cons, wp_nil, List.getElem?_cons_zero, List.getElem?_cons_succ, List.set_cons_zero, List.set_cons_succ, s_ireturn, p1_s, rI_i, rI_z, rI_c, z_01, z_11, rt_Model_isReach, true_and, and_true, Nat.le_refl, true_implies, forall_const, not_false_eq_true, false_implies, not_true_eq_false, reduceCtorEq, tl_s, tl_n, rf_s, List.cons_append, List.nil_append, true_or, or_true]
    exact hF c
theorem Mdl_weld_c {d M : Nat} (hd : 9 ≤ d) {W : Wd} {rr : Int} {h : g_H} {Q : g_Po} (w : wfW W) (hp : mrep h M W) (hr : i32 rr) (hQ : MQ9 M h Q (sp_weld W rr)) : Call Model_weld d 0 0 [.ref M, .int (I rr)] h Q := by
  have d1 : 1 ≤ d := by omega
  obtain ⟨⟨Ss, pn⟩, Hs, T, l⟩ := W
  obtain ⟨r, A, hm, ht⟩ := id hp
  unfold sp_weld at hQ
  dsimp only at hQ
  refine Call.intro (by rfl) (Nat.le_of_ble_eq_true rfl) ?_
  refine G.eqL (L := [some (.ref _), some (.int _)]) rfl ?_
  refine B_Model_weld_0 ?_
  simp only [wp_cons, wp_nil, List.getElem?_cons_zero, List.getElem?_cons_succ, List.set_cons_zero, List.set_cons_succ, s_iload_n1, ldI_s, s_invokestatic, rc_s, ob_s, List.drop_succ_cons, List.drop_zero, List.take_succ_cons, List.take_zero, List.reverse_cons, List.reverse_nil, List.nil_append, List.cons_append, List.length_cons, List.length_nil, Nat.reduceEqDiff, reduceIte, p1_s, p2_s, l1_s, d1, Int.reduceToNat, Nat.reduceAdd, Nat.reduceLeDiff, true_and, and_true, Nat.le_refl, true_implies, forall_const, not_false_eq_true, false_implies, not_true_eq_false, reduceCtorEq, tl_s, tl_n, rf_s, true_or, or_true, hm.c]
  refine Mdl_isR_c (by omega) hr (fun c1 => ?_) (fun c1 => ?_)
  · rw [if_neg (fun q => q c1)] at hQ
    refine B_Model_weld_4 ?_
    simp only [wp_cons, wp_nil, List.getElem?_cons_zero, List.getElem?_cons_succ, List.set_cons_zero, List.set_cons_succ, s_ifCond_ne, p1_s, true_and, and_true, Nat.le_refl, true_implies, forall_const, not_false_eq_true, false_implies, not_true_eq_false, reduceCtorEq, tl_s, tl_n, rf_s, List.cons_append, List.nil_append, true_or, or_true, hm.c]
    refine b_ne (by omega) (by omega) (fun cc => ?_) (fun cc => absurd cc (by omega))
    refine B_Model_weld_10 ?_
    simp only [wp_cons, wp_nil, List.getElem?_cons_zero, List.getElem?_cons_succ, List.set_cons_zero, List.set_cons_succ, s_aload_n0, ldA_r, ldA_n, s_invokevirtual, rc_s, ob_s, List.drop_succ_cons, List.drop_zero, List.take_succ_cons, List.take_zero, List.reverse_cons, List.reverse_nil, List.nil_append, List.cons_append, List.length_cons, List.length_nil, d1, Int.reduceToNat, Nat.reduceAdd, Nat.reduceLeDiff, true_and, and_true, Nat.le_refl, true_implies, forall_const, not_false_eq_true, false_implies, not_true_eq_false, reduceCtorEq, tl_s, tl_n, rf_s, true_or, or_true, hm.c]
    refine Mdl_rec_c (by omega) hm ht w (fun h1 r1 A1 c1' m1 e1 e2 s1 => ?_)
    refine B_Model_weld_14 ?_
    simp only [wp_cons, wp_nil, List.getElem?_cons_zero, List.getElem?_cons_succ, List.set_cons_zero, List.set_cons_succ, s_aload_n0, ldA_r, ldA_n, s_iload_n1, ldI_s, s_invokevirtual, rc_s, ob_s, List.drop_succ_cons, List.drop_zero, List.take_succ_cons, List.take_zero, List.reverse_cons, List.reverse_nil, List.nil_append, List.cons_append, List.length_cons, List.length_nil, d1, Int.reduceToNat, Nat.reduceAdd, Nat.reduceLeDiff, true_and, and_true, Nat.le_refl, true_implies, forall_const, not_false_eq_true, false_implies, not_true_eq_false, reduceCtorEq, tl_s, tl_n, rf_s, true_or, or_true, m1.c]
    refine Mdl_welds_c (by omega) m1 s1.1 w.g.1 w.g.2.1.1 c1 (fun h2 r2 A2 c2 m2 e3 e4 s2 => ?_)
    refine B_Model_weld_19 ?_
    simp only [wp_cons, wp_nil, List.getElem?_cons_zero, List.getElem?_cons_succ, List.set_cons_zero, List.set_cons_succ, s_ireturn, p1_s, rI_i, rI_z, rI_c, z_01, z_11, rt_Model_weld, true_and, and_true, Nat.le_refl, true_implies, forall_const, not_false_eq_true, false_implies, not_true_eq_false, reduceCtorEq, tl_s, tl_n, rf_s, List.cons_append, List.nil_append, true_or, or_true, m1.c]
    exact hQ h2 (c1'.tr c2) ⟨_, _, m2, s1.s1 s2 (fun n hn => e4 n (by omega)) (e3 3 (by omega) (by omega)) (e3 5 (by omega) (by omega))⟩
  · rw [if_pos c1] at hQ
    refine B_Model_weld_4 ?_
    simp only [wp_cons, wp_nil, List.getElem?_cons_zero, List.getElem?_cons_succ, List.set_cons_zero, List.set_cons_succ, s_ifCond_ne, p1_s, true_and, and_true, Nat.le_refl, true_implies, forall_const, not_false_eq_true, false_implies, not_true_eq_false, reduceCtorEq, tl_s, tl_n, rf_s, List.cons_append, List.nil_append, true_or, or_true, hm.c]
    refine B_Model_weld_7 ?_
    simp only [wp_cons, wp_nil, List.getElem?_cons_zero, List.getElem?_cons_succ, List.set_cons_zero, List.set_cons_succ, s_bipush, s_ireturn, p1_s, rI_i, rI_z, rI_c, z_01, z_11, rt_Model_weld, true_and, and_true, Nat.le_refl, true_implies, forall_const, not_false_eq_true, false_implies, not_true_eq_false, reduceCtorEq, tl_s, tl_n, rf_s, List.cons_append, List.nil_append, true_or, or_true, hm.c]
    exact hQ h chg.rf hp
