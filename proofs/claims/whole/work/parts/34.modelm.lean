/-! ===== the reference: the joins of a call ===== -/
theorem lf_rev (l : List Int) : lf (fun k => pg l (l.length - 1 - k)) l.length = l.reverse := lf_eq (by rw [List.length_reverse]) (fun k hk => (pg_rev _ hk).symm)
theorem lf_id (l : List Int) : lf (pg l) l.length = l := lf_eq rfl (fun k _ => rfl)
theorem lf_tl (l : List Int) : lf (fun k => pg l (k + 1)) (l.length - 1) = l.tail := lf_eq (by rw [List.length_tail]) (fun k _ => (pg_tail l k).symm)
theorem lf_rtl (l : List Int) : lf (fun k => pg l (l.length - 2 - k)) (l.length - 1) = l.reverse.tail := lf_eq (by rw [List.length_tail, List.length_reverse]) (fun k hk => by rw [pg_tail, pg_rev _ (by omega)]; congr 1; omega)
theorem Mdl_joins_c {d M : Nat} (d6 : 6 ≤ d) {Ss S' : List Stk} {pn : Stk} {r0 : Nat → Int} {A0 : Nat → Nat → Int} {h0 : g_H} {Q : g_Po} (hpn : pn.1.length ≤ 30)
    (hQ : ∀ h' r' A', chg M (M + 10) h0 h' → mdl h' M r' A' → (∀ n, n ≠ 12 → n ≠ 13 → n ≠ 14 → r' n = r0 n) → (∀ n, n ≠ 1 → n ≠ 9 → A' n = A0 n) → stR (A' 1) (S', pn) → Q none h') :
    ∀ (k : Nat) (Ts : List Stk) (h : g_H) (r : Nat → Int) (A : Nat → Nat → Int) (x1 x2 x3 x4 : Option Value), jit k Ts S' → wfD Ts → chg M (M + 10) h0 h → mdl h M r A → (∀ n, n ≠ 12 → n ≠ 13 → n ≠ 14 → r n = r0 n) → (∀ n, n ≠ 1 → n ≠ 9 → A n = A0 n) → stR (A 1) (Ts, pn) → G Model_joins d 0 0 0 0 0 [some (.ref M), x1, x2, x3, x4] [] h Q := by
  have d1 : 1 ≤ d := by omega
  intro k
  induction k with
  | zero =>
    intro Ts h r A x1 x2 x3 x4 hk w hc hm e1 e2 hr
    refine B_Model_joins_0 ?_
    simp only [wp_cons, wp_nil, List.getElem?_cons_zero, List.getElem?_cons_succ, List.set_cons_zero, List.set_cons_succ, s_aload_n0, ldA_r, ldA_n, s_invokevirtual, rc_s, ob_s, List.drop_succ_cons, List.drop_zero, List.take_succ_cons, List.take_zero, List.reverse_cons, List.reverse_nil, List.nil_append, List.cons_append, List.length_cons, List.length_nil, d1, Int.reduceToNat, Nat.reduceAdd, Nat.reduceLeDiff, true_and, and_true, Nat.le_refl, true_implies, forall_const, not_false_eq_true, false_implies, not_true_eq_false, reduceCtorEq, tl_s, tl_n, rf_s, true_or, or_true, hm.c]
    refine Mdl_fj_c (by omega) hm hr w (fun h' r' a b _ _ _ _ _ hb => absurd ⟨a, b, hb.1⟩ hk.2) (fun _ h1 r1 c1 m1 e3 => ?_)
    refine B_Model_joins_4 ?_
    simp only [wp_cons, wp_nil, List.getElem?_cons_zero, List.getElem?_cons_succ, List.set_cons_zero, List.set_cons_succ, s_ifCond_eq, p1_s, true_and, and_true, Nat.le_refl, true_implies, forall_const, not_false_eq_true, false_implies, not_true_eq_false, reduceCtorEq, tl_s, tl_n, rf_s, List.cons_append, List.nil_append, true_or, or_true, hm.c]
    refine B_Model_joins_172 ?_
    simp only [wp_cons, wp_nil, List.getElem?_cons_zero, List.getElem?_cons_succ, List.set_cons_zero, List.set_cons_succ, s_return_, rt_Model_joins, true_and, and_true, Nat.le_refl, true_implies, forall_const, not_false_eq_true, false_implies, not_true_eq_false, reduceCtorEq, tl_s, tl_n, rf_s, List.cons_append, List.nil_append, true_or, or_true, hm.c]
    exact hQ h1 r1 A (hc.tr (c1.wd (by omega) (by omega))) m1 (fun n h1 h2 h3 => by rw [e3 n h2 h3, e1 n h1 h2 h3]) e2 (by rw [hk.1]; exact hr)
  | succ k ih =>
    intro Ts h r A x1 x2 x3 x4 hk w hc hm e1 e2 hr
    obtain ⟨a, b, hb, hk⟩ := hk
    refine B_Model_joins_0 ?_
    simp only [wp_cons, wp_nil, List.getElem?_cons_zero, List.getElem?_cons_succ, List.set_cons_zero, List.set_cons_succ, s_aload_n0, ldA_r, ldA_n, s_invokevirtual, rc_s, ob_s, List.drop_succ_cons, List.drop_zero, List.take_succ_cons, List.take_zero, List.reverse_cons, List.reverse_nil, List.nil_append, List.cons_append, List.length_cons, List.length_nil, d1, Int.reduceToNat, Nat.reduceAdd, Nat.reduceLeDiff, true_and, and_true, Nat.le_refl, true_implies, forall_const, not_false_eq_true, false_implies, not_true_eq_false, reduceCtorEq, tl_s, tl_n, rf_s, true_or, or_true, hm.c]
    refine Mdl_fj_c (by omega) hm hr w (fun h1 r1 a' b' c1 m1 e3 q1 q2 hb' => ?_) (fun q => absurd ⟨a, b, hb.1⟩ q)
    obtain ⟨rfl, rfl⟩ := jb_un w hb hb'
    have hv := hb.1
    have p1 := wfD_e w hv.2.1
    have p2 := wfD_e w hv.2.2.1
    have la := hv.2.1.1
    have lb := hv.2.2.1.1
    have ha : a / 2 < Ts.length := by omega
    have hbl : b / 2 < Ts.length := by omega
    have z1 : ez Ts a = (sg Ts (a / 2)).1.length := rfl
    have z2 : ez Ts b = (sg Ts (b / 2)).1.length := rfl
    have w10 := w.1
    obtain ⟨t1, t2, t3⟩ := hr.st ha
    obtain ⟨u1, u2, u3⟩ := hr.st hbl
    have m2 := m1.f12 0
    rw [q1, q2] at m2
    have c12 : ∀ v, chg M (M + 10) h0 (h1.set M v) := fun v => (hc.tr (c1.wd (by omega) (by omega))).tr (chg.set _ (by omega))
    have wj := (jap_ok w hv).1
    have lays : ∀ j, j < Ts.length → (sg Ts j).1.length ≤ 30 := fun j hj => (w.2 j hj).2.1
    have n13 : ui r1 12 0 13 = a := by rw [ui_n _ _ (by omega), q1]
    have n14 : ui r1 12 0 14 = b := by rw [ui_n _ _ (by omega), q2]
    by_cases cs : a / 2 = b / 2
    · have hz4 := hv.2.2.2.2.1 cs
      have ej : jap Ts a b = Ts.set (a / 2) ((sg Ts (a / 2)).1.take ((sg Ts (a / 2)).1.length - 1), true) := by unfold jap; rw [if_pos cs]
      refine B_Model_joins_4 ?_
      simp only [wp_cons, wp_nil, List.getElem?_cons_zero, List.getElem?_cons_succ, List.set_cons_zero, List.set_cons_succ, s_ifCond_eq, p1_s, true_and, and_true, Nat.le_refl, true_implies, forall_const, not_false_eq_true, false_implies, not_true_eq_false, reduceCtorEq, tl_s, tl_n, rf_s, List.cons_append, List.nil_append, true_or, or_true, m1.c, m2.c, q1, q2, I_hlf (e := a) (by omega), I_hlf (e := b) (by omega), Nat.reduceLT, Nat.reduceAdd]
      refine b_eq (by omega) (by omega) (fun cc => absurd cc (by omega)) (fun cc => ?_)
      refine B_Model_joins_7 ?_
      simp only [wp_cons, wp_nil, List.getElem?_cons_zero, List.getElem?_cons_succ, List.set_cons_zero, List.set_cons_succ, s_aload_n0, ldA_r, ldA_n, s_getfield, pR_s, ob_s, gt_s, s_iconst, s_idiv, p2_s, ne_k1000, ne_k2, s_istore_n1, p1_s, s1_0, s1_s, kx_i, kx_r, kx_n, kx_l, kx_0, s_istore_n2, s_putfield, pv_i, pv_z, pv_r, pv_f, z_01, z_11, List.length_cons, List.length_nil, s_iload_n1, ldI_s, s_iload_n2, s_if_icmp_ne, true_and, and_true, Nat.le_refl, true_implies, forall_const, not_false_eq_true, false_implies, not_true_eq_false, reduceCtorEq, tl_s, tl_n, rf_s, List.cons_append, List.nil_append, true_or, or_true, m1.c, m2.c, q1, q2, I_hlf (e := a) (by omega), I_hlf (e := b) (by omega), Nat.reduceLT, Nat.reduceAdd]
      refine b_ne (by omega) (by omega) (fun cc => absurd cc (by omega)) (fun cc => ?_)
      refine B_Model_joins_31 ?_
      simp only [wp_cons, wp_nil, List.getElem?_cons_zero, List.getElem?_cons_succ, List.set_cons_zero, List.set_cons_succ, s_aload_n0, ldA_r, ldA_n, s_iload_n1, ldI_s, s_iconst, s_invokevirtual, rc_s, ob_s, List.drop_succ_cons, List.drop_zero, List.take_succ_cons, List.take_zero, List.reverse_cons, List.reverse_nil, List.nil_append, List.cons_append, List.length_cons, List.length_nil, d1, Int.reduceToNat, Nat.reduceAdd, Nat.reduceLeDiff, true_and, and_true, Nat.le_refl, true_implies, forall_const, not_false_eq_true, false_implies, not_true_eq_false, reduceCtorEq, tl_s, tl_n, rf_s, true_or, or_true, m1.c, m2.c, q1, q2, I_hlf (e := a) (by omega), I_hlf (e := b) (by omega), Nat.reduceLT]
      refine Mdl_len_c (by omega) m2 hr w.l ha ?_
      refine B_Model_joins_40 ?_
      simp only [wp_cons, wp_nil, List.getElem?_cons_zero, List.getElem?_cons_succ, List.set_cons_zero, List.set_cons_succ, s_iconst, s_isub, p2_s, I_sub, s_invokevirtual, rc_s, ob_s, List.drop_succ_cons, List.drop_zero, List.take_succ_cons, List.take_zero, List.reverse_cons, List.reverse_nil, List.nil_append, List.cons_append, List.length_cons, List.length_nil, d1, Int.reduceToNat, Nat.reduceAdd, Nat.reduceLeDiff, true_and, and_true, Nat.le_refl, true_implies, forall_const, not_false_eq_true, false_implies, not_true_eq_false, reduceCtorEq, tl_s, tl_n, rf_s, true_or, or_true, m1.c, m2.c, q1, q2, I_hlf (e := a) (by omega), I_hlf (e := b) (by omega), Nat.reduceLT]
      rw [show ((sg Ts (a / 2)).1.length : Int) - 1 = (((sg Ts (a / 2)).1.length - 1 : Nat) : Int) by omega]
      refine Mdl_takes_c (by omega) (g := pg (sg Ts (a / 2)).1) m2 pts.nil (by show 0 + _ ≤ 64; omega) (fun k hk => ⟨34 + 32 * (a / 2) + k, by omega, by omega, t3 k (by omega)⟩) (fun h3 r3 A3 c3 m3 e4 e5 p3 => ?_)
      rw [List.nil_append, lf_take (by omega)] at p3
      have s3 : stR (A3 1) (Ts, pn) := by rw [e5 1 (by omega)]; exact hr
      refine B_Model_joins_45 ?_
      simp only [wp_cons, wp_nil, List.getElem?_cons_zero, List.getElem?_cons_succ, List.set_cons_zero, List.set_cons_succ, s_aload_n0, ldA_r, ldA_n, s_iload_n1, ldI_s, s_iconst, s_invokevirtual, rc_s, ob_s, List.drop_succ_cons, List.drop_zero, List.take_succ_cons, List.take_zero, List.reverse_cons, List.reverse_nil, List.nil_append, List.cons_append, List.length_cons, List.length_nil, d1, Int.reduceToNat, Nat.reduceAdd, Nat.reduceLeDiff, true_and, and_true, Nat.le_refl, true_implies, forall_const, not_false_eq_true, false_implies, not_true_eq_false, reduceCtorEq, tl_s, tl_n, rf_s, true_or, or_true, m3.c]
      refine Mdl_lays_c (z := true) (by omega) m3 p3 (by rw [List.length_take]; omega) (by omega) (fun h4 A4 c4 m4 e6 e7 e8 e9 e10 => ?_)
      have s4 := s3.lay lays hpn ha e7 e8 e9 e10
      rw [← ej] at s4
      refine B_Model_joins_51 ?_
      simp only [wp_cons, wp_nil, List.getElem?_cons_zero, List.getElem?_cons_succ, List.set_cons_zero, List.set_cons_succ, s_goto, true_and, and_true, Nat.le_refl, true_implies, forall_const, not_false_eq_true, false_implies, not_true_eq_false, reduceCtorEq, tl_s, tl_n, rf_s, List.cons_append, List.nil_append, true_or, or_true, m3.c]
      refine B_Model_joins_169 ?_
      simp only [wp_cons, wp_nil, List.getElem?_cons_zero, List.getElem?_cons_succ, List.set_cons_zero, List.set_cons_succ, s_goto, true_and, and_true, Nat.le_refl, true_implies, forall_const, not_false_eq_true, false_implies, not_true_eq_false, reduceCtorEq, tl_s, tl_n, rf_s, List.cons_append, List.nil_append, true_or, or_true, m3.c]
      exact ih _ h4 r3 A4 _ _ _ _ hk wj (((c12 _).tr c3).tr c4) m4 (fun n h1 h2 h3 => by rw [e4 n h1, ui_n _ _ h1, e3 n h2 h3, e1 n h1 h2 h3]) (fun n h1 h2 => by rw [e6 n h1, e5 n h2, e2 n h1 h2]) s4
    · have hz := hv.2.2.2.2.2 cs
      have ej : jap Ts a b = (Ts.set (a / 2) (jnl Ts a b, false)).eraseIdx (b / 2) := by unfold jap; rw [if_neg cs]
      have hjl := jnl_len w hv.2.1 hv.2.2.1
      have fin : ∀ (h5 : g_H) (r5 : Nat → Int) (A5 : Nat → Nat → Int) (y3 y4 : Option Value), chg M (M + 10) h0 h5 → mdl h5 M r5 A5 → (∀ n, n ≠ 12 → r5 n = ui r1 12 0 n) → (∀ n, n ≠ 9 → A5 n = A n) → pts r5 A5 (jnl Ts a b) → G Model_joins d 0 0 0 0 158 [some (.ref M), some (.int (I ((a / 2 : Nat) : Int))), some (.int (I ((b / 2 : Nat) : Int))), y3, y4] [] h5 Q := by
        intro h5 r5 A5 y3 y4 c5 m5 e4 e5 p5
        have s5 : stR (A5 1) (Ts, pn) := by rw [e5 1 (by omega)]; exact hr
        refine B_Model_joins_158 ?_
        simp only [wp_cons, wp_nil, List.getElem?_cons_zero, List.getElem?_cons_succ, List.set_cons_zero, List.set_cons_succ, s_aload_n0, ldA_r, ldA_n, s_iload_n1, ldI_s, s_iconst, s_invokevirtual, rc_s, ob_s, List.drop_succ_cons, List.drop_zero, List.take_succ_cons, List.take_zero, List.reverse_cons, List.reverse_nil, List.nil_append, List.cons_append, List.length_cons, List.length_nil, d1, Int.reduceToNat, Nat.reduceAdd, Nat.reduceLeDiff, true_and, and_true, Nat.le_refl, true_implies, forall_const, not_false_eq_true, false_implies, not_true_eq_false, reduceCtorEq, tl_s, tl_n, rf_s, true_or, or_true, m5.c]
        refine Mdl_lays_c (z := false) (by omega) m5 p5 (by omega) (by omega) (fun h6 A6 c6 m6 e6 e7 e8 e9 e10 => ?_)
        have s6 := s5.lay lays hpn ha e7 e8 e9 e10
        refine B_Model_joins_164 ?_
        simp only [wp_cons, wp_nil, List.getElem?_cons_zero, List.getElem?_cons_succ, List.set_cons_zero, List.set_cons_succ, s_aload_n0, ldA_r, ldA_n, s_iload_n2, ldI_s, s_invokevirtual, rc_s, ob_s, List.drop_succ_cons, List.drop_zero, List.take_succ_cons, List.take_zero, List.reverse_cons, List.reverse_nil, List.nil_append, List.cons_append, List.length_cons, List.length_nil, d1, Int.reduceToNat, Nat.reduceAdd, Nat.reduceLeDiff, true_and, and_true, Nat.le_refl, true_implies, forall_const, not_false_eq_true, false_implies, not_true_eq_false, reduceCtorEq, tl_s, tl_n, rf_s, true_or, or_true, m6.c]
        refine Mdl_out_c (by omega) m6 s6 (w.l.set ha (by omega) (by omega) (by
          have v1 := rvi_wf (w.2 (a / 2) ha) (decide (a % 2 = 0))
          have v2 := rvi_wf (w.2 (b / 2) hbl) (decide (b % 2 = 1))
          intro i hi
          rw [jnl_pg w hv.2.1 hv.2.2.1]
          split
          · exact v1.1 i (by rw [rvi_len]; omega)
          · exact v2.1 _ (by rw [rvi_len]; omega))) hpn (by rw [List.length_set]; exact hbl) (fun h7 A7 c7 m7 e11 s7 => ?_)
        rw [← ej] at s7
        refine B_Model_joins_169 ?_
        simp only [wp_cons, wp_nil, List.getElem?_cons_zero, List.getElem?_cons_succ, List.set_cons_zero, List.set_cons_succ, s_goto, true_and, and_true, Nat.le_refl, true_implies, forall_const, not_false_eq_true, false_implies, not_true_eq_false, reduceCtorEq, tl_s, tl_n, rf_s, List.cons_append, List.nil_append, true_or, or_true, m6.c]
        exact ih _ h7 r5 A7 _ _ _ _ hk wj ((c5.tr c6).tr c7) m7 (fun n h1 h2 h3 => by rw [e4 n h1, ui_n _ _ h1, e3 n h2 h3, e1 n h1 h2 h3]) (fun n h1 h2 => by rw [e11 n h1, e6 n h1, e5 n h2, e2 n h1 h2]) s7
      have snd : ∀ (h5 : g_H) (r5 : Nat → Int) (A5 : Nat → Nat → Int) (v3 : Int) (y4 : Option Value), chg M (M + 10) h0 h5 → mdl h5 M r5 A5 → (∀ n, n ≠ 12 → r5 n = ui r1 12 0 n) → (∀ n, n ≠ 9 → A5 n = A n) → pts r5 A5 (rvi (decide (a % 2 = 0)) (sg Ts (a / 2)).1) → G Model_joins d 0 0 0 0 104 [some (.ref M), some (.int (I ((a / 2 : Nat) : Int))), some (.int (I ((b / 2 : Nat) : Int))), some (.int (I v3)), y4] [] h5 Q := by
        intro h5 r5 A5 v3 y4 c5 m5 e4 e5 p5
        have s5 : stR (A5 1) (Ts, pn) := by rw [e5 1 (by omega)]; exact hr
        have q5 : r5 14 = b := (e4 14 (by omega)).trans n14
        obtain ⟨u1, u2, u3⟩ := s5.st hbl
        have hlr : (rvi (decide (a % 2 = 0)) (sg Ts (a / 2)).1).length = ez Ts a := rvi_len _ _
        by_cases pb : b % 2 = 0
        · have er : rvi (decide (b % 2 = 1)) (sg Ts (b / 2)).1 = (sg Ts (b / 2)).1 := by unfold rvi; rw [if_neg (by simp; omega)]
          refine B_Model_joins_104 ?_
          simp only [wp_cons, wp_nil, List.getElem?_cons_zero, List.getElem?_cons_succ, List.set_cons_zero, List.set_cons_succ, s_aload_n0, ldA_r, ldA_n, s_getfield, pR_s, ob_s, gt_s, s_iconst, s_irem, p2_s, ne_k1000, ne_k2, s_ifCond_ne, p1_s, true_and, and_true, Nat.le_refl, true_implies, forall_const, not_false_eq_true, false_implies, not_true_eq_false, reduceCtorEq, tl_s, tl_n, rf_s, List.cons_append, List.nil_append, true_or, or_true, m5.c, q5, I_hlf (e := b) (by omega), I_re2 (e := b) (by omega)]
          refine b_ne (by omega) (by omega) (fun cc => absurd cc (by omega)) (fun cc => ?_)
          refine B_Model_joins_113 ?_
          simp only [wp_cons, wp_nil, List.getElem?_cons_zero, List.getElem?_cons_succ, List.set_cons_zero, List.set_cons_succ, s_iconst, s_goto, true_and, and_true, Nat.le_refl, true_implies, forall_const, not_false_eq_true, false_implies, not_true_eq_false, reduceCtorEq, tl_s, tl_n, rf_s, List.cons_append, List.nil_append, true_or, or_true, m5.c, q5, I_hlf (e := b) (by omega), I_re2 (e := b) (by omega)]
          refine B_Model_joins_118 ?_
          simp only [wp_cons, wp_nil, List.getElem?_cons_zero, List.getElem?_cons_succ, List.set_cons_zero, List.set_cons_succ, s_istore, p1_s, s1_0, s1_s, kx_i, kx_r, kx_n, kx_l, kx_0, s_aload_n0, ldA_r, ldA_n, s_iload_n2, ldI_s, s_iload, s_ifCond_eq, true_and, and_true, Nat.le_refl, true_implies, forall_const, not_false_eq_true, false_implies, not_true_eq_false, reduceCtorEq, tl_s, tl_n, rf_s, List.cons_append, List.nil_append, true_or, or_true, m5.c, q5, I_hlf (e := b) (by omega), I_re2 (e := b) (by omega)]
          refine b_eq (by omega) (by omega) (fun cc => absurd cc (by omega)) (fun cc => ?_)
          refine B_Model_joins_127 ?_
          simp only [wp_cons, wp_nil, List.getElem?_cons_zero, List.getElem?_cons_succ, List.set_cons_zero, List.set_cons_succ, s_iconst, s_goto, true_and, and_true, Nat.le_refl, true_implies, forall_const, not_false_eq_true, false_implies, not_true_eq_false, reduceCtorEq, tl_s, tl_n, rf_s, List.cons_append, List.nil_append, true_or, or_true, m5.c, q5, I_hlf (e := b) (by omega), I_re2 (e := b) (by omega)]
          refine B_Model_joins_138 ?_
          simp only [wp_cons, wp_nil, List.getElem?_cons_zero, List.getElem?_cons_succ, List.set_cons_zero, List.set_cons_succ, s_iload, ldI_s, s_ifCond_eq, p1_s, true_and, and_true, Nat.le_refl, true_implies, forall_const, not_false_eq_true, false_implies, not_true_eq_false, reduceCtorEq, tl_s, tl_n, rf_s, List.cons_append, List.nil_append, true_or, or_true, m5.c, q5, I_hlf (e := b) (by omega), I_re2 (e := b) (by omega)]
          refine b_eq (by omega) (by omega) (fun cc => absurd cc (by omega)) (fun cc => ?_)
          refine B_Model_joins_143 ?_
          simp only [wp_cons, wp_nil, List.getElem?_cons_zero, List.getElem?_cons_succ, List.set_cons_zero, List.set_cons_succ, s_iconst, s_goto, true_and, and_true, Nat.le_refl, true_implies, forall_const, not_false_eq_true, false_implies, not_true_eq_false, reduceCtorEq, tl_s, tl_n, rf_s, List.cons_append, List.nil_append, true_or, or_true, m5.c, q5, I_hlf (e := b) (by omega), I_re2 (e := b) (by omega)]
          refine B_Model_joins_148 ?_
          simp only [wp_cons, wp_nil, List.getElem?_cons_zero, List.getElem?_cons_succ, List.set_cons_zero, List.set_cons_succ, s_aload_n0, ldA_r, ldA_n, s_iload_n2, ldI_s, s_invokevirtual, rc_s, ob_s, List.drop_succ_cons, List.drop_zero, List.take_succ_cons, List.take_zero, List.reverse_cons, List.reverse_nil, List.nil_append, List.cons_append, List.length_cons, List.length_nil, d1, Int.reduceToNat, Nat.reduceAdd, Nat.reduceLeDiff, true_and, and_true, Nat.le_refl, true_implies, forall_const, not_false_eq_true, false_implies, not_true_eq_false, reduceCtorEq, tl_s, tl_n, rf_s, true_or, or_true, m5.c, q5, I_hlf (e := b) (by omega), I_re2 (e := b) (by omega)]
          refine Mdl_len_c (by omega) m5 s5 w.l hbl ?_
          refine B_Model_joins_153 ?_
          simp only [wp_cons, wp_nil, List.getElem?_cons_zero, List.getElem?_cons_succ, List.set_cons_zero, List.set_cons_succ, s_iconst, s_isub, p2_s, I_sub, s_invokevirtual, rc_s, ob_s, List.drop_succ_cons, List.drop_zero, List.take_succ_cons, List.take_zero, List.reverse_cons, List.reverse_nil, List.nil_append, List.cons_append, List.length_cons, List.length_nil, d1, Int.reduceToNat, Nat.reduceAdd, Nat.reduceLeDiff, true_and, and_true, Nat.le_refl, true_implies, forall_const, not_false_eq_true, false_implies, not_true_eq_false, reduceCtorEq, tl_s, tl_n, rf_s, true_or, or_true, m5.c, q5, I_hlf (e := b) (by omega), I_re2 (e := b) (by omega)]
          rw [show ((sg Ts (b / 2)).1.length : Int) - 1 = (((sg Ts (b / 2)).1.length - 1 : Nat) : Int) by omega]
          refine Mdl_takes_c (by omega) (g := fun k => pg (sg Ts (b / 2)).1 (k + 1)) m5 p5 (by omega) (fun k hk => ⟨34 + 32 * (b / 2) + (k + 1), by omega, by omega, u3 _ (by omega)⟩) (fun h6 r6 A6 c6 m6 e6 e7 p6 => ?_)
          rw [lf_tl] at p6
          refine fin h6 r6 A6 _ _ (c5.tr c6) m6 (fun n hn => by rw [e6 n hn, e4 n hn]) (fun n hn => by rw [e7 n hn, e5 n hn]) ?_
          unfold jnl
          rw [er]
          exact p6
        · have er : rvi (decide (b % 2 = 1)) (sg Ts (b / 2)).1 = (sg Ts (b / 2)).1.reverse := by unfold rvi; rw [if_pos (by simp; omega)]
          refine B_Model_joins_104 ?_
          simp only [wp_cons, wp_nil, List.getElem?_cons_zero, List.getElem?_cons_succ, List.set_cons_zero, List.set_cons_succ, s_aload_n0, ldA_r, ldA_n, s_getfield, pR_s, ob_s, gt_s, s_iconst, s_irem, p2_s, ne_k1000, ne_k2, s_ifCond_ne, p1_s, true_and, and_true, Nat.le_refl, true_implies, forall_const, not_false_eq_true, false_implies, not_true_eq_false, reduceCtorEq, tl_s, tl_n, rf_s, List.cons_append, List.nil_append, true_or, or_true, m5.c, q5, I_hlf (e := b) (by omega), I_re2 (e := b) (by omega)]
          refine b_ne (by omega) (by omega) (fun cc => ?_) (fun cc => absurd cc (by omega))
          refine B_Model_joins_117 ?_
          simp only [wp_cons, wp_nil, List.getElem?_cons_zero, List.getElem?_cons_succ, List.set_cons_zero, List.set_cons_succ, s_iconst, true_and, and_true, Nat.le_refl, true_implies, forall_const, not_false_eq_true, false_implies, not_true_eq_false, reduceCtorEq, tl_s, tl_n, rf_s, List.cons_append, List.nil_append, true_or, or_true, m5.c, q5, I_hlf (e := b) (by omega), I_re2 (e := b) (by omega)]
          refine B_Model_joins_118 ?_
          simp only [wp_cons, wp_nil, List.getElem?_cons_zero, List.getElem?_cons_succ, List.set_cons_zero, List.set_cons_succ, s_istore, p1_s, s1_0, s1_s, kx_i, kx_r, kx_n, kx_l, kx_0, s_aload_n0, ldA_r, ldA_n, s_iload_n2, ldI_s, s_iload, s_ifCond_eq, true_and, and_true, Nat.le_refl, true_implies, forall_const, not_false_eq_true, false_implies, not_true_eq_false, reduceCtorEq, tl_s, tl_n, rf_s, List.cons_append, List.nil_append, true_or, or_true, m5.c, q5, I_hlf (e := b) (by omega), I_re2 (e := b) (by omega)]
          refine B_Model_joins_131 ?_
          simp only [wp_cons, wp_nil, List.getElem?_cons_zero, List.getElem?_cons_succ, List.set_cons_zero, List.set_cons_succ, s_aload_n0, ldA_r, ldA_n, s_iload_n2, ldI_s, s_invokevirtual, rc_s, ob_s, List.drop_succ_cons, List.drop_zero, List.take_succ_cons, List.take_zero, List.reverse_cons, List.reverse_nil, List.nil_append, List.cons_append, List.length_cons, List.length_nil, d1, Int.reduceToNat, Nat.reduceAdd, Nat.reduceLeDiff, true_and, and_true, Nat.le_refl, true_implies, forall_const, not_false_eq_true, false_implies, not_true_eq_false, reduceCtorEq, tl_s, tl_n, rf_s, true_or, or_true, m5.c, q5, I_hlf (e := b) (by omega), I_re2 (e := b) (by omega)]
          refine Mdl_len_c (by omega) m5 s5 w.l hbl ?_
          refine B_Model_joins_136 ?_
          simp only [wp_cons, wp_nil, List.getElem?_cons_zero, List.getElem?_cons_succ, List.set_cons_zero, List.set_cons_succ, s_iconst, s_isub, p2_s, I_sub, true_and, and_true, Nat.le_refl, true_implies, forall_const, not_false_eq_true, false_implies, not_true_eq_false, reduceCtorEq, tl_s, tl_n, rf_s, List.cons_append, List.nil_append, true_or, or_true, m5.c, q5, I_hlf (e := b) (by omega), I_re2 (e := b) (by omega)]
          refine B_Model_joins_138 ?_
          simp only [wp_cons, wp_nil, List.getElem?_cons_zero, List.getElem?_cons_succ, List.set_cons_zero, List.set_cons_succ, s_iload, ldI_s, s_ifCond_eq, p1_s, true_and, and_true, Nat.le_refl, true_implies, forall_const, not_false_eq_true, false_implies, not_true_eq_false, reduceCtorEq, tl_s, tl_n, rf_s, List.cons_append, List.nil_append, true_or, or_true, m5.c, q5, I_hlf (e := b) (by omega), I_re2 (e := b) (by omega)]
          refine B_Model_joins_147 ?_
          simp only [wp_cons, wp_nil, List.getElem?_cons_zero, List.getElem?_cons_succ, List.set_cons_zero, List.set_cons_succ, s_iconst, true_and, and_true, Nat.le_refl, true_implies, forall_const, not_false_eq_true, false_implies, not_true_eq_false, reduceCtorEq, tl_s, tl_n, rf_s, List.cons_append, List.nil_append, true_or, or_true, m5.c, q5, I_hlf (e := b) (by omega), I_re2 (e := b) (by omega)]
          refine B_Model_joins_148 ?_
          simp only [wp_cons, wp_nil, List.getElem?_cons_zero, List.getElem?_cons_succ, List.set_cons_zero, List.set_cons_succ, s_aload_n0, ldA_r, ldA_n, s_iload_n2, ldI_s, s_invokevirtual, rc_s, ob_s, List.drop_succ_cons, List.drop_zero, List.take_succ_cons, List.take_zero, List.reverse_cons, List.reverse_nil, List.nil_append, List.cons_append, List.length_cons, List.length_nil, d1, Int.reduceToNat, Nat.reduceAdd, Nat.reduceLeDiff, true_and, and_true, Nat.le_refl, true_implies, forall_const, not_false_eq_true, false_implies, not_true_eq_false, reduceCtorEq, tl_s, tl_n, rf_s, true_or, or_true, m5.c, q5, I_hlf (e := b) (by omega), I_re2 (e := b) (by omega)]
          refine Mdl_len_c (by omega) m5 s5 w.l hbl ?_
          refine B_Model_joins_153 ?_
          simp only [wp_cons, wp_nil, List.getElem?_cons_zero, List.getElem?_cons_succ, List.set_cons_zero, List.set_cons_succ, s_iconst, s_isub, p2_s, I_sub, s_invokevirtual, rc_s, ob_s, List.drop_succ_cons, List.drop_zero, List.take_succ_cons, List.take_zero, List.reverse_cons, List.reverse_nil, List.nil_append, List.cons_append, List.length_cons, List.length_nil, d1, Int.reduceToNat, Nat.reduceAdd, Nat.reduceLeDiff, true_and, and_true, Nat.le_refl, true_implies, forall_const, not_false_eq_true, false_implies, not_true_eq_false, reduceCtorEq, tl_s, tl_n, rf_s, true_or, or_true, m5.c, q5, I_hlf (e := b) (by omega), I_re2 (e := b) (by omega)]
          rw [show ((sg Ts (b / 2)).1.length : Int) - 1 = (((sg Ts (b / 2)).1.length - 1 : Nat) : Int) by omega]
          refine Mdl_takes_c (by omega) (g := fun k => pg (sg Ts (b / 2)).1 ((sg Ts (b / 2)).1.length - 2 - k)) m5 p5 (by omega) (fun k hk => ⟨34 + 32 * (b / 2) + ((sg Ts (b / 2)).1.length - 2 - k), by omega, by omega, u3 _ (by omega)⟩) (fun h6 r6 A6 c6 m6 e6 e7 p6 => ?_)
          rw [lf_rtl] at p6
          refine fin h6 r6 A6 _ _ (c5.tr c6) m6 (fun n hn => by rw [e6 n hn, e4 n hn]) (fun n hn => by rw [e7 n hn, e5 n hn]) ?_
          unfold jnl
          rw [er]
          exact p6
      by_cases pa : a % 2 = 0
      · have er : rvi (decide (a % 2 = 0)) (sg Ts (a / 2)).1 = (sg Ts (a / 2)).1.reverse := by unfold rvi; rw [if_pos (by simpa using pa)]
        refine B_Model_joins_4 ?_
        simp only [wp_cons, wp_nil, List.getElem?_cons_zero, List.getElem?_cons_succ, List.set_cons_zero, List.set_cons_succ, s_ifCond_eq, p1_s, true_and, and_true, Nat.le_refl, true_implies, forall_const, not_false_eq_true, false_implies, not_true_eq_false, reduceCtorEq, tl_s, tl_n, rf_s, List.cons_append, List.nil_append, true_or, or_true, m1.c, m2.c, q1, q2, n13, n14, I_hlf (e := a) (by omega), I_hlf (e := b) (by omega), I_re2 (e := a) (by omega), Nat.reduceLT, Nat.reduceAdd]
        refine b_eq (by omega) (by omega) (fun cc => absurd cc (by omega)) (fun cc => ?_)
        refine B_Model_joins_7 ?_
        simp only [wp_cons, wp_nil, List.getElem?_cons_zero, List.getElem?_cons_succ, List.set_cons_zero, List.set_cons_succ, s_aload_n0, ldA_r, ldA_n, s_getfield, pR_s, ob_s, gt_s, s_iconst, s_idiv, p2_s, ne_k1000, ne_k2, s_istore_n1, p1_s, s1_0, s1_s, kx_i, kx_r, kx_n, kx_l, kx_0, s_istore_n2, s_putfield, pv_i, pv_z, pv_r, pv_f, z_01, z_11, List.length_cons, List.length_nil, s_iload_n1, ldI_s, s_iload_n2, s_if_icmp_ne, true_and, and_true, Nat.le_refl, true_implies, forall_const, not_false_eq_true, false_implies, not_true_eq_false, reduceCtorEq, tl_s, tl_n, rf_s, List.cons_append, List.nil_append, true_or, or_true, m1.c, m2.c, q1, q2, n13, n14, I_hlf (e := a) (by omega), I_hlf (e := b) (by omega), I_re2 (e := a) (by omega), Nat.reduceLT, Nat.reduceAdd]
        refine b_ne (by omega) (by omega) (fun cc => ?_) (fun cc => absurd cc (by omega))
        refine B_Model_joins_54 ?_
        simp only [wp_cons, wp_nil, List.getElem?_cons_zero, List.getElem?_cons_succ, List.set_cons_zero, List.set_cons_succ, s_aload_n0, ldA_r, ldA_n, s_getfield, pR_s, ob_s, gt_s, s_iconst, s_irem, p2_s, ne_k1000, ne_k2, s_if_icmp_ne, true_and, and_true, Nat.le_refl, true_implies, forall_const, not_false_eq_true, false_implies, not_true_eq_false, reduceCtorEq, tl_s, tl_n, rf_s, List.cons_append, List.nil_append, true_or, or_true, m1.c, m2.c, q1, q2, n13, n14, I_hlf (e := a) (by omega), I_hlf (e := b) (by omega), I_re2 (e := a) (by omega), Nat.reduceLT, Nat.reduceAdd]
        refine b_ne (by omega) (by omega) (fun cc => ?_) (fun cc => absurd cc (by omega))
        refine B_Model_joins_68 ?_
        simp only [wp_cons, wp_nil, List.getElem?_cons_zero, List.getElem?_cons_succ, List.set_cons_zero, List.set_cons_succ, s_iconst, true_and, and_true, Nat.le_refl, true_implies, forall_const, not_false_eq_true, false_implies, not_true_eq_false, reduceCtorEq, tl_s, tl_n, rf_s, List.cons_append, List.nil_append, true_or, or_true, m1.c, m2.c, q1, q2, n13, n14, I_hlf (e := a) (by omega), I_hlf (e := b) (by omega), I_re2 (e := a) (by omega), Nat.reduceLT, Nat.reduceAdd]
        refine B_Model_joins_69 ?_
        simp only [wp_cons, wp_nil, List.getElem?_cons_zero, List.getElem?_cons_succ, List.set_cons_zero, List.set_cons_succ, s_istore_n3, p1_s, s1_0, s1_s, kx_i, kx_r, kx_n, kx_l, kx_0, s_aload_n0, ldA_r, ldA_n, s_iload_n1, ldI_s, s_iload_n3, s_ifCond_eq, true_and, and_true, Nat.le_refl, true_implies, forall_const, not_false_eq_true, false_implies, not_true_eq_false, reduceCtorEq, tl_s, tl_n, rf_s, List.cons_append, List.nil_append, true_or, or_true, m1.c, m2.c, q1, q2, n13, n14, I_hlf (e := a) (by omega), I_hlf (e := b) (by omega), I_re2 (e := a) (by omega), Nat.reduceLT, Nat.reduceAdd]
        refine B_Model_joins_80 ?_
        simp only [wp_cons, wp_nil, List.getElem?_cons_zero, List.getElem?_cons_succ, List.set_cons_zero, List.set_cons_succ, s_aload_n0, ldA_r, ldA_n, s_iload_n1, ldI_s, s_invokevirtual, rc_s, ob_s, List.drop_succ_cons, List.drop_zero, List.take_succ_cons, List.take_zero, List.reverse_cons, List.reverse_nil, List.nil_append, List.cons_append, List.length_cons, List.length_nil, d1, Int.reduceToNat, Nat.reduceAdd, Nat.reduceLeDiff, true_and, and_true, Nat.le_refl, true_implies, forall_const, not_false_eq_true, false_implies, not_true_eq_false, reduceCtorEq, tl_s, tl_n, rf_s, true_or, or_true, m1.c, m2.c, q1, q2, n13, n14, I_hlf (e := a) (by omega), I_hlf (e := b) (by omega), I_re2 (e := a) (by omega), Nat.reduceLT]
        refine Mdl_len_c (by omega) m2 hr w.l ha ?_
        refine B_Model_joins_85 ?_
        simp only [wp_cons, wp_nil, List.getElem?_cons_zero, List.getElem?_cons_succ, List.set_cons_zero, List.set_cons_succ, s_iconst, s_isub, p2_s, I_sub, true_and, and_true, Nat.le_refl, true_implies, forall_const, not_false_eq_true, false_implies, not_true_eq_false, reduceCtorEq, tl_s, tl_n, rf_s, List.cons_append, List.nil_append, true_or, or_true, m1.c, m2.c, q1, q2, n13, n14, I_hlf (e := a) (by omega), I_hlf (e := b) (by omega), I_re2 (e := a) (by omega), Nat.reduceLT, Nat.reduceAdd]
        refine B_Model_joins_87 ?_
        simp only [wp_cons, wp_nil, List.getElem?_cons_zero, List.getElem?_cons_succ, List.set_cons_zero, List.set_cons_succ, s_iload_n3, ldI_s, s_ifCond_eq, p1_s, true_and, and_true, Nat.le_refl, true_implies, forall_const, not_false_eq_true, false_implies, not_true_eq_false, reduceCtorEq, tl_s, tl_n, rf_s, List.cons_append, List.nil_append, true_or, or_true, m1.c, m2.c, q1, q2, n13, n14, I_hlf (e := a) (by omega), I_hlf (e := b) (by omega), I_re2 (e := a) (by omega), Nat.reduceLT, Nat.reduceAdd]
        refine B_Model_joins_95 ?_
        simp only [wp_cons, wp_nil, List.getElem?_cons_zero, List.getElem?_cons_succ, List.set_cons_zero, List.set_cons_succ, s_iconst, true_and, and_true, Nat.le_refl, true_implies, forall_const, not_false_eq_true, false_implies, not_true_eq_false, reduceCtorEq, tl_s, tl_n, rf_s, List.cons_append, List.nil_append, true_or, or_true, m1.c, m2.c, q1, q2, n13, n14, I_hlf (e := a) (by omega), I_hlf (e := b) (by omega), I_re2 (e := a) (by omega), Nat.reduceLT, Nat.reduceAdd]
        refine B_Model_joins_96 ?_
        simp only [wp_cons, wp_nil, List.getElem?_cons_zero, List.getElem?_cons_succ, List.set_cons_zero, List.set_cons_succ, s_aload_n0, ldA_r, ldA_n, s_iload_n1, ldI_s, s_invokevirtual, rc_s, ob_s, List.drop_succ_cons, List.drop_zero, List.take_succ_cons, List.take_zero, List.reverse_cons, List.reverse_nil, List.nil_append, List.cons_append, List.length_cons, List.length_nil, d1, Int.reduceToNat, Nat.reduceAdd, Nat.reduceLeDiff, true_and, and_true, Nat.le_refl, true_implies, forall_const, not_false_eq_true, false_implies, not_true_eq_false, reduceCtorEq, tl_s, tl_n, rf_s, true_or, or_true, m1.c, m2.c, q1, q2, n13, n14, I_hlf (e := a) (by omega), I_hlf (e := b) (by omega), I_re2 (e := a) (by omega), Nat.reduceLT]
        refine Mdl_len_c (by omega) m2 hr w.l ha ?_
        refine B_Model_joins_101 ?_
        simp only [wp_cons, wp_nil, List.getElem?_cons_zero, List.getElem?_cons_succ, List.set_cons_zero, List.set_cons_succ, s_invokevirtual, rc_s, ob_s, List.drop_succ_cons, List.drop_zero, List.take_succ_cons, List.take_zero, List.reverse_cons, List.reverse_nil, List.nil_append, List.cons_append, List.length_cons, List.length_nil, d1, Int.reduceToNat, Nat.reduceAdd, Nat.reduceLeDiff, true_and, and_true, Nat.le_refl, true_implies, forall_const, not_false_eq_true, false_implies, not_true_eq_false, reduceCtorEq, tl_s, tl_n, rf_s, true_or, or_true, m1.c, m2.c, q1, q2, n13, n14, I_hlf (e := a) (by omega), I_hlf (e := b) (by omega), I_re2 (e := a) (by omega), Nat.reduceLT]
        refine Mdl_takes_c (by omega) (c := (sg Ts (a / 2)).1.length) (g := fun k => pg (sg Ts (a / 2)).1 ((sg Ts (a / 2)).1.length - 1 - k)) m2 pts.nil (by show 0 + _ ≤ 64; omega) (fun k hk => ⟨34 + 32 * (a / 2) + ((sg Ts (a / 2)).1.length - 1 - k), by omega, by omega, t3 _ (by omega)⟩) (fun h6 r6 A6 c6 m6 e6 e7 p6 => ?_)
        rw [List.nil_append, lf_rev, ← er] at p6
        exact snd h6 r6 A6 _ _ ((c12 _).tr c6) m6 e6 e7 p6
      · have er : rvi (decide (a % 2 = 0)) (sg Ts (a / 2)).1 = (sg Ts (a / 2)).1 := by unfold rvi; rw [if_neg (by simpa using pa)]
        refine B_Model_joins_4 ?_
        simp only [wp_cons, wp_nil, List.getElem?_cons_zero, List.getElem?_cons_succ, List.set_cons_zero, List.set_cons_succ, s_ifCond_eq, p1_s, true_and, and_true, Nat.le_refl, true_implies, forall_const, not_false_eq_true, false_implies, not_true_eq_false, reduceCtorEq, tl_s, tl_n, rf_s, List.cons_append, List.nil_append, true_or, or_true, m1.c, m2.c, q1, q2, n13, n14, I_hlf (e := a) (by omega), I_hlf (e := b) (by omega), I_re2 (e := a) (by omega), Nat.reduceLT, Nat.reduceAdd]
        refine b_eq (by omega) (by omega) (fun cc => absurd cc (by omega)) (fun cc => ?_)
        refine B_Model_joins_7 ?_
        simp only [wp_cons, wp_nil, List.getElem?_cons_zero, List.getElem?_cons_succ, List.set_cons_zero, List.set_cons_succ, s_aload_n0, ldA_r, ldA_n, s_getfield, pR_s, ob_s, gt_s, s_iconst, s_idiv, p2_s, ne_k1000, ne_k2, s_istore_n1, p1_s, s1_0, s1_s, kx_i, kx_r, kx_n, kx_l, kx_0, s_istore_n2, s_putfield, pv_i, pv_z, pv_r, pv_f, z_01, z_11, List.length_cons, List.length_nil, s_iload_n1, ldI_s, s_iload_n2, s_if_icmp_ne, true_and, and_true, Nat.le_refl, true_implies, forall_const, not_false_eq_true, false_implies, not_true_eq_false, reduceCtorEq, tl_s, tl_n, rf_s, List.cons_append, List.nil_append, true_or, or_true, m1.c, m2.c, q1, q2, n13, n14, I_hlf (e := a) (by omega), I_hlf (e := b) (by omega), I_re2 (e := a) (by omega), Nat.reduceLT, Nat.reduceAdd]
        refine b_ne (by omega) (by omega) (fun cc => ?_) (fun cc => absurd cc (by omega))
        refine B_Model_joins_54 ?_
        simp only [wp_cons, wp_nil, List.getElem?_cons_zero, List.getElem?_cons_succ, List.set_cons_zero, List.set_cons_succ, s_aload_n0, ldA_r, ldA_n, s_getfield, pR_s, ob_s, gt_s, s_iconst, s_irem, p2_s, ne_k1000, ne_k2, s_if_icmp_ne, true_and, and_true, Nat.le_refl, true_implies, forall_const, not_false_eq_true, false_implies, not_true_eq_false, reduceCtorEq, tl_s, tl_n, rf_s, List.cons_append, List.nil_append, true_or, or_true, m1.c, m2.c, q1, q2, n13, n14, I_hlf (e := a) (by omega), I_hlf (e := b) (by omega), I_re2 (e := a) (by omega), Nat.reduceLT, Nat.reduceAdd]
        refine b_ne (by omega) (by omega) (fun cc => absurd cc (by omega)) (fun cc => ?_)
        refine B_Model_joins_64 ?_
        simp only [wp_cons, wp_nil, List.getElem?_cons_zero, List.getElem?_cons_succ, List.set_cons_zero, List.set_cons_succ, s_iconst, s_goto, true_and, and_true, Nat.le_refl, true_implies, forall_const, not_false_eq_true, false_implies, not_true_eq_false, reduceCtorEq, tl_s, tl_n, rf_s, List.cons_append, List.nil_append, true_or, or_true, m1.c, m2.c, q1, q2, n13, n14, I_hlf (e := a) (by omega), I_hlf (e := b) (by omega), I_re2 (e := a) (by omega), Nat.reduceLT, Nat.reduceAdd]
        refine B_Model_joins_69 ?_
        simp only [wp_cons, wp_nil, List.getElem?_cons_zero, List.getElem?_cons_succ, List.set_cons_zero, List.set_cons_succ, s_istore_n3, p1_s, s1_0, s1_s, kx_i, kx_r, kx_n, kx_l, kx_0, s_aload_n0, ldA_r, ldA_n, s_iload_n1, ldI_s, s_iload_n3, s_ifCond_eq, true_and, and_true, Nat.le_refl, true_implies, forall_const, not_false_eq_true, false_implies, not_true_eq_false, reduceCtorEq, tl_s, tl_n, rf_s, List.cons_append, List.nil_append, true_or, or_true, m1.c, m2.c, q1, q2, n13, n14, I_hlf (e := a) (by omega), I_hlf (e := b) (by omega), I_re2 (e := a) (by omega), Nat.reduceLT, Nat.reduceAdd]
        refine b_eq (by omega) (by omega) (fun cc => absurd cc (by omega)) (fun cc => ?_)
        refine B_Model_joins_76 ?_
        simp only [wp_cons, wp_nil, List.getElem?_cons_zero, List.getElem?_cons_succ, List.set_cons_zero, List.set_cons_succ, s_iconst, s_goto, true_and, and_true, Nat.le_refl, true_implies, forall_const, not_false_eq_true, false_implies, not_true_eq_false, reduceCtorEq, tl_s, tl_n, rf_s, List.cons_append, List.nil_append, true_or, or_true, m1.c, m2.c, q1, q2, n13, n14, I_hlf (e := a) (by omega), I_hlf (e := b) (by omega), I_re2 (e := a) (by omega), Nat.reduceLT, Nat.reduceAdd]
        refine B_Model_joins_87 ?_
        simp only [wp_cons, wp_nil, List.getElem?_cons_zero, List.getElem?_cons_succ, List.set_cons_zero, List.set_cons_succ, s_iload_n3, ldI_s, s_ifCond_eq, p1_s, true_and, and_true, Nat.le_refl, true_implies, forall_const, not_false_eq_true, false_implies, not_true_eq_false, reduceCtorEq, tl_s, tl_n, rf_s, List.cons_append, List.nil_append, true_or, or_true, m1.c, m2.c, q1, q2, n13, n14, I_hlf (e := a) (by omega), I_hlf (e := b) (by omega), I_re2 (e := a) (by omega), Nat.reduceLT, Nat.reduceAdd]
        refine b_eq (by omega) (by omega) (fun cc => absurd cc (by omega)) (fun cc => ?_)
        refine B_Model_joins_91 ?_
        simp only [wp_cons, wp_nil, List.getElem?_cons_zero, List.getElem?_cons_succ, List.set_cons_zero, List.set_cons_succ, s_iconst, s_goto, true_and, and_true, Nat.le_refl, true_implies, forall_const, not_false_eq_true, false_implies, not_true_eq_false, reduceCtorEq, tl_s, tl_n, rf_s, List.cons_append, List.nil_append, true_or, or_true, m1.c, m2.c, q1, q2, n13, n14, I_hlf (e := a) (by omega), I_hlf (e := b) (by omega), I_re2 (e := a) (by omega), Nat.reduceLT, Nat.reduceAdd]
        refine B_Model_joins_96 ?_
        simp only [wp_cons, wp_nil, List.getElem?_cons_zero, List.getElem?_cons_succ, List.set_cons_zero, List.set_cons_succ, s_aload_n0, ldA_r, ldA_n, s_iload_n1, ldI_s, s_invokevirtual, rc_s, ob_s, List.drop_succ_cons, List.drop_zero, List.take_succ_cons, List.take_zero, List.reverse_cons, List.reverse_nil, List.nil_append, List.cons_append, List.length_cons, List.length_nil, d1, Int.reduceToNat, Nat.reduceAdd, Nat.reduceLeDiff, true_and, and_true, Nat.le_refl, true_implies, forall_const, not_false_eq_true, false_implies, not_true_eq_false, reduceCtorEq, tl_s, tl_n, rf_s, true_or, or_true, m1.c, m2.c, q1, q2, n13, n14, I_hlf (e := a) (by omega), I_hlf (e := b) (by omega), I_re2 (e := a) (by omega), Nat.reduceLT]
        refine Mdl_len_c (by omega) m2 hr w.l ha ?_
        refine B_Model_joins_101 ?_
        simp only [wp_cons, wp_nil, List.getElem?_cons_zero, List.getElem?_cons_succ, List.set_cons_zero, List.set_cons_succ, s_invokevirtual, rc_s, ob_s, List.drop_succ_cons, List.drop_zero, List.take_succ_cons, List.take_zero, List.reverse_cons, List.reverse_nil, List.nil_append, List.cons_append, List.length_cons, List.length_nil, d1, Int.reduceToNat, Nat.reduceAdd, Nat.reduceLeDiff, true_and, and_true, Nat.le_refl, true_implies, forall_const, not_false_eq_true, false_implies, not_true_eq_false, reduceCtorEq, tl_s, tl_n, rf_s, true_or, or_true, m1.c, m2.c, q1, q2, n13, n14, I_hlf (e := a) (by omega), I_hlf (e := b) (by omega), I_re2 (e := a) (by omega), Nat.reduceLT]
        refine Mdl_takes_c (by omega) (c := (sg Ts (a / 2)).1.length) (g := pg (sg Ts (a / 2)).1) m2 pts.nil (by show 0 + _ ≤ 64; omega) (fun k hk => ⟨34 + 32 * (a / 2) + k, by omega, by omega, t3 _ (by omega)⟩) (fun h6 r6 A6 c6 m6 e6 e7 p6 => ?_)
        rw [List.nil_append, lf_id, ← er] at p6
        exact snd h6 r6 A6 _ _ ((c12 _).tr c6) m6 e6 e7 p6
