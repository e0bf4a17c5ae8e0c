/-! ===== the reference: the points that are kept ===== -/
theorem Mdl_push_c {d M o : Nat} {a b : Int} {r : Nat → Int} {A : Nat → Nat → Int} {h : g_H} {Q : g_Po} (hm : mdl h M r A) (h1 : r 10 = (o : Int)) (h2 : o < 64) (hQ : ∀ h', chg M (M + 10) h h' → mdl h' M (ui r 10 ((o : Int) + 1)) (ua (ua A 7 o a) 8 o b) → Q none h') : Call Model_pushes d 0 0 [.ref M, .int (I a), .int (I b)] h Q := by
  have m7 := hm.a7 o a
  have m8 := m7.a8 o b
  have m9 := m8.f10 ((o : Int) + 1)
  refine Call.intro (by rfl) (Nat.le_of_ble_eq_true rfl) ?_
  refine G.eqL (L := [some (.ref _), some (.int _), some (.int _)]) rfl ?_
  refine B_Model_pushes_0 ?_
  simp only [wp_cons, wp_nil, List.getElem?_cons_zero, List.getElem?_cons_succ, List.set_cons_zero, List.set_cons_succ, s_aload_n0, ldA_r, ldA_n, s_getfield, pR_s, ob_s, gt_s, s_iload_n1, ldI_s, s_iastore, iiR_s, ia_s, s_iload_n2, s_dup, p1v_i, p1v_r, s_iconst, s_iadd, p2_s, I_add, s_putfield, pv_i, pv_z, pv_r, pv_f, z_01, z_11, List.length_cons, List.length_nil, s_return_, rt_Model_pushes, true_and, and_true, Nat.le_refl, true_implies, forall_const, not_false_eq_true, false_implies, not_true_eq_false, reduceCtorEq, tl_s, tl_n, rf_s, List.cons_append, List.nil_append, true_or, or_true, hm.c, hm.g7, m7.c, m7.g8, m8.c, h1, upd_ui, ex_ix (i := o) (n := 64) (by omega), ex_iy (i := o) (n := 64) (by omega), Nat.reduceLT, Nat.reduceAdd]
  exact hQ _ (((chg.set _ (by omega)).tr (chg.set _ (by omega))).tr (chg.set _ (by omega))) m9
theorem lv_le (S : Stk) : ∀ (n a b : Nat) (c : Int) (k : Nat), lv S n a b c k ≤ c := by
  intro n
  induction n with
  | zero => intro a b c k; exact Int.le_refl _
  | succ n ih =>
    intro a b c k
    have h1 := ih a (frS S a b) (min c (owS S a b)) k
    have h2 := ih (frS S a b) b (min c (owS S a b)) k
    unfold lv
    split
    · omega
    · split
      · omega
      · split <;> omega
def kf (t v : Int) : Int := if t ≤ v then 1 else 0
theorem Mdl_piece {d M s : Nat} {t : Int} (d4 : 4 ≤ d) {st : Sta} {r0 : Nat → Int} {A0 : Nat → Nat → Int} {h0 : g_H} {Q : g_Po} (hr0 : stR (A0 1) st) (w : wfL st.1) (wS : wfS (sg st.1 s)) (hs : s < st.1.length) (ht : 0 ≤ t ∧ t ≤ 200) : ∀ (n a b : Nat) (c : Int) (o : Nat) (h : g_H) (r : Nat → Int) (A : Nat → Nat → Int) (x3 x4 x5 : Option Value), b - a ≤ n → a < b → b ≤ pcs (sg st.1 s) → a < (sg st.1 s).1.length → o + (b - a) ≤ 62 → t ≤ c → chg M (M + 10) h0 h → mdl h M r A → (∀ n, n ≠ 10 → r n = r0 n) → (∀ n, n ≠ 6 → n ≠ 7 → n ≠ 8 → A n = A0 n) → r 10 = ((o + 1 : Nat) : Int) → A 7 o = a → A 8 o = b → (∀ j, a < j → j < b → A 6 j = 0) →
    (∀ (h' : g_H) (r' : Nat → Int) (A' : Nat → Nat → Int) (y3 y4 y5 : Option Value), chg M (M + 10) h0 h' → mdl h' M r' A' → (∀ n, n ≠ 10 → r' n = r0 n) → (∀ n, n ≠ 6 → n ≠ 7 → n ≠ 8 → A' n = A0 n) → r' 10 = (o : Int) → (∀ i, i < o → A' 7 i = A 7 i ∧ A' 8 i = A 8 i) → (∀ j, j ≤ a ∨ b ≤ j → A' 6 j = A 6 j) → (∀ j, a < j → j < b → A' 6 j = kf t (lv (sg st.1 s) n a b c j)) → G Model_findKept d 0 0 0 0 98 [some (.ref M), some (.int (I (s : Int))), some (.int (I t)), y3, y4, y5] [] h' Q) →
    G Model_findKept d 0 0 0 0 98 [some (.ref M), some (.int (I (s : Int))), some (.int (I t)), x3, x4, x5] [] h Q := by
  have d1 : 1 ≤ d := by omega
  have w10 := w.1
  obtain ⟨w1, w2, w3, w4, w5⟩ := id wS
  have hpc := pcs_le (S := sg st.1 s)
  intro n
  induction n with
  | zero => intro a b c o h r A x3 x4 x5 hn hab; omega
  | succ n ih =>
    intro a b c o h r A x3 x4 x5 hn hab hb hal ho htc hc hm e1 e2 e10 e7 e8 e6 hK
    have hm2 := hm.f10 (((o + 1 : Nat) : Int) - 1)
    have c2 := hc.tr (chg.set (.inr (.inr (7, [.ref (M + 1), .ref (M + 2), .ref (M + 3), .int (I (r 3)), .ref (M + 4), .int (I (r 5)), .ref (M + 5), .ref (M + 6), .ref (M + 7), .ref (M + 8), .int (I (((o + 1 : Nat) : Int) - 1)), .ref (M + 9), .int (I (r 12)), .int (I (r 13)), .int (I (r 14)), .int (I (r 15)), .int (I (r 16)), .int (I (r 17)), .int (I (r 18)), .int (I (r 19)), .int (I (r 20))]))) (show M ≤ M ∧ M < M + 10 by omega))
    have hr2 : stR (A 1) st := by rw [e2 1 (by omega) (by omega) (by omega)]; exact hr0
    have n10 : ui r 10 (((o + 1 : Nat) : Int) - 1) 10 = (o : Int) := by rw [ui_s]; omega
    refine B_Model_findKept_98 ?_
    simp only [wp_cons, wp_nil, List.getElem?_cons_zero, List.getElem?_cons_succ, List.set_cons_zero, List.set_cons_succ, s_aload_n0, ldA_r, ldA_n, s_getfield, pR_s, ob_s, gt_s, s_ifCond_le, p1_s, true_and, and_true, Nat.le_refl, true_implies, forall_const, not_false_eq_true, false_implies, not_true_eq_false, reduceCtorEq, tl_s, tl_n, rf_s, List.cons_append, List.nil_append, true_or, or_true, hm.c, e10, hm2.c, hm2.g7, hm2.g8, e7, e8, ex_ix (i := o) (n := 64) (by omega), ex_iy (i := o) (n := 64) (by omega), n10, Nat.reduceLT, Nat.reduceAdd]
    refine b_le (by omega) (by omega) (fun cc => absurd cc (by omega)) (fun cc => ?_)
    refine B_Model_findKept_105 ?_
    simp only [wp_cons, wp_nil, List.getElem?_cons_zero, List.getElem?_cons_succ, List.set_cons_zero, List.set_cons_succ, s_aload_n0, ldA_r, ldA_n, s_dup, p1v_i, p1v_r, s_getfield, pR_s, ob_s, gt_s, s_iconst, s_isub, p2_s, I_sub, s_putfield, pv_i, pv_z, pv_r, pv_f, z_01, z_11, List.length_cons, List.length_nil, s_iaload, iR_s, ia_s, s_istore_n3, p1_s, s1_0, s1_s, kx_i, kx_r, kx_n, kx_l, kx_0, s_istore, s_iload_n1, ldI_s, s_iload_n3, s_iload, s_iload_n2, s_invokevirtual, rc_s, List.drop_succ_cons, List.drop_zero, List.take_succ_cons, List.take_zero, List.reverse_cons, List.reverse_nil, List.nil_append, List.cons_append, d1, Int.reduceToNat, Nat.reduceAdd, Nat.reduceLeDiff, true_and, and_true, Nat.le_refl, true_implies, forall_const, not_false_eq_true, false_implies, not_true_eq_false, reduceCtorEq, tl_s, tl_n, rf_s, true_or, or_true, hm.c, e10, hm2.c, hm2.g7, hm2.g8, e7, e8, ex_ix (i := o) (n := 64) (by omega), ex_iy (i := o) (n := 64) (by omega), n10, Nat.reduceLT]
    refine Mdl_far_c (b := b) (by omega) hm2 hr2 w hs hal (by omega) ht ?_
    by_cases cc : a + 1 < b ∧ t ≤ owS (sg st.1 s) a b
    · rw [if_pos cc]
      have r3 := frS_rng (sg st.1 s) cc.1
      have hl : t ≤ min c (owS (sg st.1 s) a b) := by omega
      have hm3 := hm2.a6 (frS (sg st.1 s) a b) 1
      refine B_Model_findKept_145 ?_
      simp only [wp_cons, wp_nil, List.getElem?_cons_zero, List.getElem?_cons_succ, List.set_cons_zero, List.set_cons_succ, s_istore, p1_s, s1_0, s1_s, kx_i, kx_r, kx_n, kx_l, kx_0, s_iload, ldI_s, s_bipush, s_if_icmp_eq, p2_s, true_and, and_true, Nat.le_refl, true_implies, forall_const, not_false_eq_true, false_implies, not_true_eq_false, reduceCtorEq, tl_s, tl_n, rf_s, List.cons_append, List.nil_append, true_or, or_true, hm2.c, hm2.g6, hm3.c, upd_ui, ex_ix (i := frS (sg st.1 s) a b) (n := 31) (by omega)]
      refine b_eq (by omega) (by omega) (fun cc => absurd cc (by omega)) (fun cc => ?_)
      refine B_Model_findKept_154 ?_
      simp only [wp_cons, wp_nil, List.getElem?_cons_zero, List.getElem?_cons_succ, List.set_cons_zero, List.set_cons_succ, s_aload_n0, ldA_r, ldA_n, s_getfield, pR_s, ob_s, gt_s, s_iload, ldI_s, s_iconst, s_iastore, iiR_s, ia_s, s_iload_n3, s_invokevirtual, rc_s, List.drop_succ_cons, List.drop_zero, List.take_succ_cons, List.take_zero, List.reverse_cons, List.reverse_nil, List.nil_append, List.cons_append, List.length_cons, List.length_nil, d1, Int.reduceToNat, Nat.reduceAdd, Nat.reduceLeDiff, true_and, and_true, Nat.le_refl, true_implies, forall_const, not_false_eq_true, false_implies, not_true_eq_false, reduceCtorEq, tl_s, tl_n, rf_s, true_or, or_true, hm2.c, hm2.g6, hm3.c, upd_ui, ex_ix (i := frS (sg st.1 s) a b) (n := 31) (by omega)]
      refine Mdl_push_c (o := o) hm3 (by rw [ui_s]; omega) (by omega) (fun h4 c4 m4 => ?_)
      refine B_Model_findKept_169 ?_
      simp only [wp_cons, wp_nil, List.getElem?_cons_zero, List.getElem?_cons_succ, List.set_cons_zero, List.set_cons_succ, s_aload_n0, ldA_r, ldA_n, s_iload, ldI_s, s_invokevirtual, rc_s, ob_s, List.drop_succ_cons, List.drop_zero, List.take_succ_cons, List.take_zero, List.reverse_cons, List.reverse_nil, List.nil_append, List.cons_append, List.length_cons, List.length_nil, d1, Int.reduceToNat, Nat.reduceAdd, Nat.reduceLeDiff, true_and, and_true, Nat.le_refl, true_implies, forall_const, not_false_eq_true, false_implies, not_true_eq_false, reduceCtorEq, tl_s, tl_n, rf_s, true_or, or_true, m4.c]
      refine Mdl_push_c (o := o + 1) m4 (by rw [ui_s]; omega) (by omega) (fun h5 c5 m5 => ?_)
      refine B_Model_findKept_177 ?_
      simp only [wp_cons, wp_nil, List.getElem?_cons_zero, List.getElem?_cons_succ, List.set_cons_zero, List.set_cons_succ, s_goto, true_and, and_true, Nat.le_refl, true_implies, forall_const, not_false_eq_true, false_implies, not_true_eq_false, reduceCtorEq, tl_s, tl_n, rf_s, List.cons_append, List.nil_append, true_or, or_true, m4.c]
      have c25 := ((c2.tr (chg.set _ (by omega))).tr c4).tr c5
      refine ih (frS (sg st.1 s) a b) b (min c (owS (sg st.1 s) a b)) (o + 1) h5 _ _ _ _ _ (by omega) (by omega) (by omega) (by omega) (by omega) hl c25 m5 (fun n hn => by rw [ui_n _ _ hn, ui_n _ _ hn, ui_n _ _ hn, e1 n hn]) (fun n h6 h7 h8 => by rw [ua_n _ _ _ h8, ua_n _ _ _ h7, ua_n _ _ _ h8, ua_n _ _ _ h7, ua_n _ _ _ h6, e2 n h6 h7 h8]) (by rw [ui_s]; omega) (by rw [ua_n _ _ _ (by omega), ua_s, ui_s]) (by rw [ua_s, ui_s]) (fun j h1 h2 => ?_) (fun h6 r6 A6 y3 y4 y5 c6 m6 f1 f2 f10 f78 f6 f6' => ?_)
      · rw [ua_n _ _ _ (by omega), ua_n _ _ _ (by omega), ua_n _ _ _ (by omega), ua_n _ _ _ (by omega), ua_s, ui_n _ _ (by omega)]
        exact e6 j (by omega) h2
      · have g7 := f78 o (by omega)
        have B6 : ∀ j, (ua (ua (ua (ua (ua A 6 (frS (sg st.1 s) a b) 1) 7 o a) 8 o (frS (sg st.1 s) a b)) 7 (o + 1) (frS (sg st.1 s) a b)) 8 (o + 1) b) 6 j = ui (A 6) (frS (sg st.1 s) a b) 1 j := fun j => by
          rw [ua_n _ _ _ (by omega), ua_n _ _ _ (by omega), ua_n _ _ _ (by omega), ua_n _ _ _ (by omega), ua_s]
        have B7 : ∀ j, j < o → (ua (ua (ua (ua (ua A 6 (frS (sg st.1 s) a b) 1) 7 o a) 8 o (frS (sg st.1 s) a b)) 7 (o + 1) (frS (sg st.1 s) a b)) 8 (o + 1) b) 7 j = A 7 j := fun j hj => by
          rw [ua_n _ _ _ (by omega), ua_s, ui_n _ _ (by omega), ua_n _ _ _ (by omega), ua_s, ui_n _ _ (by omega), ua_n _ _ _ (by omega)]
        have B8 : ∀ j, j < o → (ua (ua (ua (ua (ua A 6 (frS (sg st.1 s) a b) 1) 7 o a) 8 o (frS (sg st.1 s) a b)) 7 (o + 1) (frS (sg st.1 s) a b)) 8 (o + 1) b) 8 j = A 8 j := fun j hj => by
          rw [ua_s, ui_n _ _ (by omega), ua_n _ _ _ (by omega), ua_s, ui_n _ _ (by omega), ua_n _ _ _ (by omega), ua_n _ _ _ (by omega)]
        rw [ua_n _ _ _ (by omega), ua_s, ui_n _ _ (by omega), ua_n _ _ _ (by omega), ua_s, ui_s, ua_s, ui_n _ _ (by omega), ua_n _ _ _ (by omega), ua_s, ui_s] at g7
        refine ih a (frS (sg st.1 s) a b) (min c (owS (sg st.1 s) a b)) o h6 r6 A6 _ _ _ (by omega) (by omega) (by omega) (by omega) (by omega) hl c6 m6 f1 f2 f10 g7.1 g7.2 (fun j h1 h2 => ?_) (fun h7 r7 A7 y3 y4 y5 c7 m7 k1 k2 k10 k78 k6 k6' => ?_)
        · rw [f6 j (by omega), B6, ui_n _ _ (by omega)]
          exact e6 j (by omega) (by omega)
        · refine hK h7 r7 A7 y3 y4 y5 c7 m7 k1 k2 k10 (fun i hi => ?_) (fun j hj => ?_) (fun j h1 h2 => ?_)
          · rw [(k78 i hi).1, (k78 i hi).2, (f78 i (by omega)).1, (f78 i (by omega)).2, B7 i hi, B8 i hi]
            exact ⟨rfl, rfl⟩
          · rw [k6 j (by omega), f6 j (by omega), B6, ui_n _ _ (by omega)]
          · unfold lv
            rw [if_neg (by omega)]
            by_cases q1 : j = frS (sg st.1 s) a b
            · rw [if_pos q1, q1, k6 _ (by omega), f6 _ (by omega), B6, ui_s]
              unfold kf
              rw [if_pos hl]
            · rw [if_neg q1]
              by_cases q2 : j < frS (sg st.1 s) a b
              · rw [if_pos q2]; exact k6' j h1 q2
              · rw [if_neg q2, k6 j (by omega)]; exact f6' j (by omega) h2
    · rw [if_neg cc]
      refine B_Model_findKept_145 ?_
      simp only [wp_cons, wp_nil, List.getElem?_cons_zero, List.getElem?_cons_succ, List.set_cons_zero, List.set_cons_succ, s_istore, p1_s, s1_0, s1_s, kx_i, kx_r, kx_n, kx_l, kx_0, s_iload, ldI_s, s_bipush, s_if_icmp_eq, p2_s, true_and, and_true, Nat.le_refl, true_implies, forall_const, not_false_eq_true, false_implies, not_true_eq_false, reduceCtorEq, tl_s, tl_n, rf_s, List.cons_append, List.nil_append, true_or, or_true, hm2.c]
      refine B_Model_findKept_177 ?_
      simp only [wp_cons, wp_nil, List.getElem?_cons_zero, List.getElem?_cons_succ, List.set_cons_zero, List.set_cons_succ, s_goto, true_and, and_true, Nat.le_refl, true_implies, forall_const, not_false_eq_true, false_implies, not_true_eq_false, reduceCtorEq, tl_s, tl_n, rf_s, List.cons_append, List.nil_append, true_or, or_true, hm2.c]
      refine hK _ _ A _ _ _ c2 hm2 (fun n hn => by rw [ui_n _ _ hn, e1 n hn]) e2 (by rw [ui_s]; omega) (fun i hi => ⟨rfl, rfl⟩) (fun j hj => rfl) (fun j h1 h2 => ?_)
      rw [e6 j h1 h2]
      unfold lv
      rw [if_neg (by omega)]
      have q0 : ¬ t ≤ owS (sg st.1 s) a b := fun q => cc ⟨by omega, q⟩
      have q1 := lv_le (sg st.1 s) n a (frS (sg st.1 s) a b) (min c (owS (sg st.1 s) a b)) j
      have q2 := lv_le (sg st.1 s) n (frS (sg st.1 s) a b) b (min c (owS (sg st.1 s) a b)) j
      unfold kf
      rw [if_neg]
      split
      · omega
      · split <;> omega
theorem Mdl_fk_c {d M s : Nat} {t : Int} (d4 : 4 ≤ d) {st : Sta} {r0 : Nat → Int} {A0 : Nat → Nat → Int} {h0 : g_H} {Q : g_Po} (hm0 : mdl h0 M r0 A0) (hr0 : stR (A0 1) st) (w : wfL st.1) (wS : wfS (sg st.1 s)) (hs : s < st.1.length) (ht : 0 ≤ t ∧ t ≤ 200)
    (hQ : ∀ h' r' A', chg M (M + 10) h0 h' → mdl h' M r' A' → (∀ n, n ≠ 10 → r' n = r0 n) → (∀ n, n ≠ 6 → n ≠ 7 → n ≠ 8 → A' n = A0 n) → (∀ k, k < (sg st.1 s).1.length → A' 6 k = kf t (levS (sg st.1 s) k)) → Q none h') : Call Model_findKept d 0 0 [.ref M, .int (I (s : Int)), .int (I t)] h0 Q := by
  have d1 : 1 ≤ d := by omega
  have w10 := w.1
  obtain ⟨w1, w2, w3, w4, w5⟩ := id wS
  have k200 : kf t 200 = 1 := if_pos ht.2
  have body : ∀ (h : g_H) (A : Nat → Nat → Int) (x3 x4 x5 : Option Value), chg M (M + 10) h0 h → mdl h M r0 A → (∀ n, n ≠ 6 → A n = A0 n) → (∀ j, j < 31 → A 6 j = 0) → G Model_findKept d 0 0 0 0 21 [some (.ref M), some (.int (I (s : Int))), some (.int (I t)), x3, x4, x5] [] h Q := by
    intro h A x3 x4 x5 hc hm e2 e6
    have hm2 := hm.a6 0 1
    have hm3 := hm2.f10 0
    have c3 : ∀ u v, chg M (M + 10) h0 ((h.set (M + 6) u).set M v) := fun u v => (hc.tr (chg.set _ (by omega))).tr (chg.set _ (by omega))
    have hr3 : stR (ua A 6 0 1 1) st := by rw [ua_n _ _ _ (by omega), e2 1 (by omega)]; exact hr0
    refine B_Model_findKept_21 ?_
    simp only [wp_cons, wp_nil, List.getElem?_cons_zero, List.getElem?_cons_succ, List.set_cons_zero, List.set_cons_succ, s_aload_n0, ldA_r, ldA_n, s_getfield, pR_s, ob_s, gt_s, s_iconst, s_iastore, iiR_s, ia_s, s_putfield, pv_i, pv_z, pv_r, pv_f, z_01, z_11, List.length_cons, List.length_nil, s_iload_n1, ldI_s, s_invokevirtual, rc_s, List.drop_succ_cons, List.drop_zero, List.take_succ_cons, List.take_zero, List.reverse_cons, List.reverse_nil, List.nil_append, List.cons_append, d1, Int.reduceToNat, Nat.reduceAdd, Nat.reduceLeDiff, true_and, and_true, Nat.le_refl, true_implies, forall_const, not_false_eq_true, false_implies, not_true_eq_false, reduceCtorEq, tl_s, tl_n, rf_s, true_or, or_true, hm.c, hm.g6, hm2.c, hm3.c, upd_ui, ex_ie (x := 0) (i := 0) (n := 31) rfl (by omega), ex_iz (x := 0) (i := 0) (n := 31) rfl (by omega), Nat.reduceLT]
    refine Mdl_clo_c (by omega) hm3 hr3 w hs ?_
    cases z : (sg st.1 s).2 with
    | true =>
      have hf := ffS_rng wS
      have hpc : pcs (sg st.1 s) = (sg st.1 s).1.length := by unfold pcs; rw [if_pos z]
      have hm4 := hm3.a6 (ffS (sg st.1 s)) 1
      rw [show sz true = 1 from rfl]
      refine B_Model_findKept_38 ?_
      simp only [wp_cons, wp_nil, List.getElem?_cons_zero, List.getElem?_cons_succ, List.set_cons_zero, List.set_cons_succ, s_ifCond_eq, p1_s, true_and, and_true, Nat.le_refl, true_implies, forall_const, not_false_eq_true, false_implies, not_true_eq_false, reduceCtorEq, tl_s, tl_n, rf_s, List.cons_append, List.nil_append, true_or, or_true, hm3.c, hm3.g6, hm4.c, upd_ui, ex_ix (i := ffS (sg st.1 s)) (n := 31) (by omega)]
      refine b_eq (by omega) (by omega) (fun cc => absurd cc (by omega)) (fun cc => ?_)
      refine B_Model_findKept_41 ?_
      simp only [wp_cons, wp_nil, List.getElem?_cons_zero, List.getElem?_cons_succ, List.set_cons_zero, List.set_cons_succ, s_aload_n0, ldA_r, ldA_n, s_iload_n1, ldI_s, s_invokevirtual, rc_s, ob_s, List.drop_succ_cons, List.drop_zero, List.take_succ_cons, List.take_zero, List.reverse_cons, List.reverse_nil, List.nil_append, List.cons_append, List.length_cons, List.length_nil, d1, Int.reduceToNat, Nat.reduceAdd, Nat.reduceLeDiff, true_and, and_true, Nat.le_refl, true_implies, forall_const, not_false_eq_true, false_implies, not_true_eq_false, reduceCtorEq, tl_s, tl_n, rf_s, true_or, or_true, hm3.c, hm3.g6, hm4.c, upd_ui, ex_ix (i := ffS (sg st.1 s)) (n := 31) (by omega)]
      refine Mdl_ff_c (by omega) hm3 hr3 w wS hs ?_
      refine B_Model_findKept_46 ?_
      simp only [wp_cons, wp_nil, List.getElem?_cons_zero, List.getElem?_cons_succ, List.set_cons_zero, List.set_cons_succ, s_istore_n3, p1_s, s1_0, s1_s, kx_i, kx_r, kx_n, kx_l, kx_0, s_aload_n0, ldA_r, ldA_n, s_getfield, pR_s, ob_s, gt_s, s_iload_n3, ldI_s, s_iconst, s_iastore, iiR_s, ia_s, s_invokevirtual, rc_s, List.drop_succ_cons, List.drop_zero, List.take_succ_cons, List.take_zero, List.reverse_cons, List.reverse_nil, List.nil_append, List.cons_append, List.length_cons, List.length_nil, d1, Int.reduceToNat, Nat.reduceAdd, Nat.reduceLeDiff, true_and, and_true, Nat.le_refl, true_implies, forall_const, not_false_eq_true, false_implies, not_true_eq_false, reduceCtorEq, tl_s, tl_n, rf_s, true_or, or_true, hm3.c, hm3.g6, hm4.c, upd_ui, ex_ix (i := ffS (sg st.1 s)) (n := 31) (by omega)]
      refine Mdl_push_c (o := 0) (a := ((0 : Nat) : Int)) hm4 (by rw [ui_s]; rfl) (by omega) (fun h5 c5 m5 => ?_)
      refine B_Model_findKept_60 ?_
      simp only [wp_cons, wp_nil, List.getElem?_cons_zero, List.getElem?_cons_succ, List.set_cons_zero, List.set_cons_succ, s_aload_n0, ldA_r, ldA_n, s_iload_n3, ldI_s, s_iload_n1, s_invokevirtual, rc_s, ob_s, List.drop_succ_cons, List.drop_zero, List.take_succ_cons, List.take_zero, List.reverse_cons, List.reverse_nil, List.nil_append, List.cons_append, List.length_cons, List.length_nil, d1, Int.reduceToNat, Nat.reduceAdd, Nat.reduceLeDiff, true_and, and_true, Nat.le_refl, true_implies, forall_const, not_false_eq_true, false_implies, not_true_eq_false, reduceCtorEq, tl_s, tl_n, rf_s, true_or, or_true, m5.c]
      refine Mdl_len_c (by omega) m5 (by rw [ua_n _ _ _ (by omega), ua_n _ _ _ (by omega), ua_n _ _ _ (by omega)]; exact hr3) w hs ?_
      refine B_Model_findKept_67 ?_
      simp only [wp_cons, wp_nil, List.getElem?_cons_zero, List.getElem?_cons_succ, List.set_cons_zero, List.set_cons_succ, s_invokevirtual, rc_s, ob_s, List.drop_succ_cons, List.drop_zero, List.take_succ_cons, List.take_zero, List.reverse_cons, List.reverse_nil, List.nil_append, List.cons_append, List.length_cons, List.length_nil, d1, Int.reduceToNat, Nat.reduceAdd, Nat.reduceLeDiff, true_and, and_true, Nat.le_refl, true_implies, forall_const, not_false_eq_true, false_implies, not_true_eq_false, reduceCtorEq, tl_s, tl_n, rf_s, true_or, or_true, m5.c]
      refine Mdl_push_c (o := 1) m5 (by rw [ui_s]; rfl) (by omega) (fun h6 c6 m6 => ?_)
      refine B_Model_findKept_70 ?_
      simp only [wp_cons, wp_nil, List.getElem?_cons_zero, List.getElem?_cons_succ, List.set_cons_zero, List.set_cons_succ, s_goto, true_and, and_true, Nat.le_refl, true_implies, forall_const, not_false_eq_true, false_implies, not_true_eq_false, reduceCtorEq, tl_s, tl_n, rf_s, List.cons_append, List.nil_append, true_or, or_true, m5.c]
      have B6 : ∀ j, j < 31 → (ua (ua (ua (ua (ua (ua A 6 0 1) 6 (ffS (sg st.1 s)) 1) 7 0 ((0 : Nat) : Int)) 8 0 (ffS (sg st.1 s))) 7 1 (ffS (sg st.1 s))) 8 1 (sg st.1 s).1.length) 6 j = if j = 0 ∨ j = ffS (sg st.1 s) then 1 else 0 := fun j hj => by
        rw [ua_n _ _ _ (by omega), ua_n _ _ _ (by omega), ua_n _ _ _ (by omega), ua_n _ _ _ (by omega), ua_s, ua_s]
        by_cases q1 : j = ffS (sg st.1 s)
        · rw [if_pos (Or.inr q1), q1, ui_s]
        · rw [ui_n _ _ q1]
          by_cases q2 : j = 0
          · rw [if_pos (Or.inl q2), q2, ui_s]
          · rw [ui_n _ _ q2, if_neg (by omega), e6 j hj]
      refine Mdl_piece d4 (r0 := r0) (A0 := A0) hr0 w wS hs ht 31 (ffS (sg st.1 s)) (pcs (sg st.1 s)) 200 1 h6 _ _ _ _ _ (by omega) (by omega) (by omega) (by omega) (by omega) ht.2 ((((c3 _ _).tr (chg.set _ (by omega))).tr c5).tr c6) m6 (fun n hn => by rw [ui_n _ _ hn, ui_n _ _ hn, ui_n _ _ hn]) (fun n h6 h7 h8 => by rw [ua_n _ _ _ h8, ua_n _ _ _ h7, ua_n _ _ _ h8, ua_n _ _ _ h7, ua_n _ _ _ h6, ua_n _ _ _ h6, e2 n h6]) (by rw [ui_s]; rfl) (by rw [ua_n _ _ _ (by omega), ua_s, ui_s]) (by rw [ua_s, ui_s, hpc]) (fun j h1 h2 => by rw [B6 j (by omega), if_neg (by omega)]) (fun h7 r7 A7 y3 y4 y5 c7 m7 f1 f2 f10 f78 f6 f6' => ?_)
      have g7 := f78 0 (by omega)
      rw [ua_n _ _ _ (by omega), ua_s, ui_n _ _ (by omega), ua_n _ _ _ (by omega), ua_s, ui_s, ua_s, ui_n _ _ (by omega), ua_n _ _ _ (by omega), ua_s, ui_s] at g7
      refine Mdl_piece d4 (r0 := r0) (A0 := A0) hr0 w wS hs ht 31 0 (ffS (sg st.1 s)) 200 0 h7 r7 A7 _ _ _ (by omega) (by omega) (by omega) (by omega) (by omega) ht.2 c7 m7 f1 f2 f10 g7.1 g7.2 (fun j h1 h2 => by rw [f6 j (by omega), B6 j (by omega), if_neg (by omega)]) (fun h8 r8 A8 y3 y4 y5 c8 m8 k1 k2 k10 k78 k6 k6' => ?_)
      have k10' : r8 10 = 0 := k10
      refine B_Model_findKept_98 ?_
      simp only [wp_cons, wp_nil, List.getElem?_cons_zero, List.getElem?_cons_succ, List.set_cons_zero, List.set_cons_succ, s_aload_n0, ldA_r, ldA_n, s_getfield, pR_s, ob_s, gt_s, s_ifCond_le, p1_s, true_and, and_true, Nat.le_refl, true_implies, forall_const, not_false_eq_true, false_implies, not_true_eq_false, reduceCtorEq, tl_s, tl_n, rf_s, List.cons_append, List.nil_append, true_or, or_true, m8.c, k10']
      refine b_le (by omega) (by omega) (fun cc => ?_) (fun cc => absurd cc (by omega))
      refine B_Model_findKept_180 ?_
      simp only [wp_cons, wp_nil, List.getElem?_cons_zero, List.getElem?_cons_succ, List.set_cons_zero, List.set_cons_succ, s_return_, rt_Model_findKept, true_and, and_true, Nat.le_refl, true_implies, forall_const, not_false_eq_true, false_implies, not_true_eq_false, reduceCtorEq, tl_s, tl_n, rf_s, List.cons_append, List.nil_append, true_or, or_true, m8.c, k10']
      refine hQ h8 r8 A8 c8 m8 k1 k2 (fun k hk => ?_)
      unfold levS
      by_cases q1 : k = 0
      · rw [if_pos (Or.inl q1), k200, k6 k (by omega), f6 k (by omega), B6 k (by omega), if_pos (Or.inl q1)]
      · rw [if_neg (by omega), if_pos z]
        by_cases q2 : k = ffS (sg st.1 s)
        · rw [if_pos q2, k200, k6 k (by omega), f6 k (by omega), B6 k (by omega), if_pos (Or.inr q2)]
        · rw [if_neg q2]
          by_cases q3 : k < ffS (sg st.1 s)
          · rw [if_pos q3]; exact k6' k (by omega) q3
          · rw [if_neg q3, k6 k (by omega)]; exact f6' k (by omega) (by omega)
    | false =>
      have hpc : pcs (sg st.1 s) = (sg st.1 s).1.length - 1 := by unfold pcs; rw [if_neg (by rw [z]; decide)]
      have hm4 := hm3.a6 ((sg st.1 s).1.length - 1) 1
      have hr4 : stR ((ua (ua A 6 0 1) 6 ((sg st.1 s).1.length - 1) 1) 1) st := by rw [ua_n _ _ _ (by omega)]; exact hr3
      rw [show sz false = 0 from rfl]
      refine B_Model_findKept_38 ?_
      simp only [wp_cons, wp_nil, List.getElem?_cons_zero, List.getElem?_cons_succ, List.set_cons_zero, List.set_cons_succ, s_ifCond_eq, p1_s, true_and, and_true, Nat.le_refl, true_implies, forall_const, not_false_eq_true, false_implies, not_true_eq_false, reduceCtorEq, tl_s, tl_n, rf_s, List.cons_append, List.nil_append, true_or, or_true, hm3.c, hm3.g6, hm4.c, upd_ui, ex_ie (x := ((sg st.1 s).1.length : Int) - 1) (i := (sg st.1 s).1.length - 1) (n := 31) (by omega) (by omega)]
      refine B_Model_findKept_73 ?_
      simp only [wp_cons, wp_nil, List.getElem?_cons_zero, List.getElem?_cons_succ, List.set_cons_zero, List.set_cons_succ, s_aload_n0, ldA_r, ldA_n, s_getfield, pR_s, ob_s, gt_s, s_iload_n1, ldI_s, s_invokevirtual, rc_s, List.drop_succ_cons, List.drop_zero, List.take_succ_cons, List.take_zero, List.reverse_cons, List.reverse_nil, List.nil_append, List.cons_append, List.length_cons, List.length_nil, d1, Int.reduceToNat, Nat.reduceAdd, Nat.reduceLeDiff, true_and, and_true, Nat.le_refl, true_implies, forall_const, not_false_eq_true, false_implies, not_true_eq_false, reduceCtorEq, tl_s, tl_n, rf_s, true_or, or_true, hm3.c, hm3.g6, hm4.c, upd_ui, ex_ie (x := ((sg st.1 s).1.length : Int) - 1) (i := (sg st.1 s).1.length - 1) (n := 31) (by omega) (by omega)]
      refine Mdl_len_c (by omega) hm3 hr3 w hs ?_
      refine B_Model_findKept_82 ?_
      simp only [wp_cons, wp_nil, List.getElem?_cons_zero, List.getElem?_cons_succ, List.set_cons_zero, List.set_cons_succ, s_iconst, s_isub, p2_s, I_sub, s_iastore, iiR_s, ia_s, s_aload_n0, ldA_r, ldA_n, s_iload_n1, ldI_s, s_invokevirtual, rc_s, ob_s, List.drop_succ_cons, List.drop_zero, List.take_succ_cons, List.take_zero, List.reverse_cons, List.reverse_nil, List.nil_append, List.cons_append, List.length_cons, List.length_nil, d1, Int.reduceToNat, Nat.reduceAdd, Nat.reduceLeDiff, true_and, and_true, Nat.le_refl, true_implies, forall_const, not_false_eq_true, false_implies, not_true_eq_false, reduceCtorEq, tl_s, tl_n, rf_s, true_or, or_true, hm3.c, hm3.g6, hm4.c, upd_ui, ex_ie (x := ((sg st.1 s).1.length : Int) - 1) (i := (sg st.1 s).1.length - 1) (n := 31) (by omega) (by omega)]
      refine Mdl_len_c (by omega) hm4 hr4 w hs ?_
      refine B_Model_findKept_93 ?_
      simp only [wp_cons, wp_nil, List.getElem?_cons_zero, List.getElem?_cons_succ, List.set_cons_zero, List.set_cons_succ, s_iconst, s_isub, p2_s, I_sub, s_invokevirtual, rc_s, ob_s, List.drop_succ_cons, List.drop_zero, List.take_succ_cons, List.take_zero, List.reverse_cons, List.reverse_nil, List.nil_append, List.cons_append, List.length_cons, List.length_nil, d1, Int.reduceToNat, Nat.reduceAdd, Nat.reduceLeDiff, true_and, and_true, Nat.le_refl, true_implies, forall_const, not_false_eq_true, false_implies, not_true_eq_false, reduceCtorEq, tl_s, tl_n, rf_s, true_or, or_true, hm3.c, hm3.g6, hm4.c, upd_ui, ex_ie (x := ((sg st.1 s).1.length : Int) - 1) (i := (sg st.1 s).1.length - 1) (n := 31) (by omega) (by omega)]
      rw [show ((sg st.1 s).1.length : Int) - 1 = (((sg st.1 s).1.length - 1 : Nat) : Int) by omega]
      refine Mdl_push_c (o := 0) (a := ((0 : Nat) : Int)) hm4 (by rw [ui_s]; rfl) (by omega) (fun h6 c6 m6 => ?_)
      have B6 : ∀ j, j < 31 → (ua (ua (ua (ua A 6 0 1) 6 ((sg st.1 s).1.length - 1) 1) 7 0 ((0 : Nat) : Int)) 8 0 (((sg st.1 s).1.length - 1 : Nat) : Int)) 6 j = if j = 0 ∨ j = (sg st.1 s).1.length - 1 then 1 else 0 := fun j hj => by
        rw [ua_n _ _ _ (by omega), ua_n _ _ _ (by omega), ua_s, ua_s]
        by_cases q1 : j = (sg st.1 s).1.length - 1
        · rw [if_pos (Or.inr q1), q1, ui_s]
        · rw [ui_n _ _ q1]
          by_cases q2 : j = 0
          · rw [if_pos (Or.inl q2), q2, ui_s]
          · rw [ui_n _ _ q2, if_neg (by omega), e6 j hj]
      refine Mdl_piece d4 (r0 := r0) (A0 := A0) hr0 w wS hs ht 31 0 (pcs (sg st.1 s)) 200 0 h6 _ _ _ _ _ (by omega) (by omega) (by omega) (by omega) (by omega) ht.2 (((c3 _ _).tr (chg.set _ (by omega))).tr c6) m6 (fun n hn => by rw [ui_n _ _ hn, ui_n _ _ hn]) (fun n h6 h7 h8 => by rw [ua_n _ _ _ h8, ua_n _ _ _ h7, ua_n _ _ _ h6, ua_n _ _ _ h6, e2 n h6]) (by rw [ui_s]; rfl) (by rw [ua_n _ _ _ (by omega), ua_s, ui_s]) (by rw [ua_s, ui_s, hpc]) (fun j h1 h2 => by rw [B6 j (by omega), if_neg (by omega)]) (fun h8 r8 A8 y3 y4 y5 c8 m8 k1 k2 k10 k78 k6 k6' => ?_)
      have k10' : r8 10 = 0 := k10
      refine B_Model_findKept_98 ?_
      simp only [wp_cons, wp_nil, List.getElem?_cons_zero, List.getElem?_cons_succ, List.set_cons_zero, List.set_cons_succ, s_aload_n0, ldA_r, ldA_n, s_getfield, pR_s, ob_s, gt_s, s_ifCond_le, p1_s, true_and, and_true, Nat.le_refl, true_implies, forall_const, not_false_eq_true, false_implies, not_true_eq_false, reduceCtorEq, tl_s, tl_n, rf_s, List.cons_append, List.nil_append, true_or, or_true, m8.c, k10']
      refine b_le (by omega) (by omega) (fun cc => ?_) (fun cc => absurd cc (by omega))
      refine B_Model_findKept_180 ?_
      simp only [wp_cons, wp_nil, List.getElem?_cons_zero, List.getElem?_cons_succ, List.set_cons_zero, List.set_cons_succ, s_return_, rt_Model_findKept, true_and, and_true, Nat.le_refl, true_implies, forall_const, not_false_eq_true, false_implies, not_true_eq_false, reduceCtorEq, tl_s, tl_n, rf_s, List.cons_append, List.nil_append, true_or, or_true, m8.c, k10']
      refine hQ h8 r8 A8 c8 m8 k1 k2 (fun k hk => ?_)
      unfold levS
      by_cases q1 : k = 0 ∨ k = pcs (sg st.1 s)
      · rw [if_pos q1, k200, k6 k (by omega), B6 k (by omega), if_pos (by omega)]
      · rw [if_neg q1, if_neg (by rw [z]; decide)]
        exact k6' k (by omega) (by omega)
  have loop : ∀ (m i : Nat) (h : g_H) (A : Nat → Nat → Int) (x4 x5 : Option Value), i + m = 31 → chg M (M + 10) h0 h → mdl h M r0 A → (∀ n, n ≠ 6 → A n = A0 n) → (∀ j, j < i → A 6 j = 0) → G Model_findKept d 0 0 0 0 2 [some (.ref M), some (.int (I (s : Int))), some (.int (I t)), some (.int (I (i : Int))), x4, x5] [] h Q := by
    intro m
    induction m with
    | zero =>
      intro i h A x4 x5 hi hc hm e2 e6
      obtain rfl : i = 31 := by omega
      refine B_Model_findKept_2 ?_
      simp only [wp_cons, wp_nil, List.getElem?_cons_zero, List.getElem?_cons_succ, List.set_cons_zero, List.set_cons_succ, s_iload_n3, ldI_s, s_bipush, s_if_icmp_gt, p2_s, true_and, and_true, Nat.le_refl, true_implies, forall_const, not_false_eq_true, false_implies, not_true_eq_false, reduceCtorEq, tl_s, tl_n, rf_s, List.cons_append, List.nil_append, true_or, or_true]
      refine b_lt (by omega) (by omega) (fun cc => ?_) (fun cc => absurd cc (by omega))
      exact body h A _ _ _ hc hm e2 e6
    | succ m ih =>
      intro i h A x4 x5 hi hc hm e2 e6
      have hm2 := hm.a6 i 0
      refine B_Model_findKept_2 ?_
      simp only [wp_cons, wp_nil, List.getElem?_cons_zero, List.getElem?_cons_succ, List.set_cons_zero, List.set_cons_succ, s_iload_n3, ldI_s, s_bipush, s_if_icmp_gt, p2_s, true_and, and_true, Nat.le_refl, true_implies, forall_const, not_false_eq_true, false_implies, not_true_eq_false, reduceCtorEq, tl_s, tl_n, rf_s, List.cons_append, List.nil_append, true_or, or_true, hm.c, hm.g6, upd_ui, ex_ix (i := i) (n := 31) (by omega)]
      refine b_lt (by omega) (by omega) (fun cc => absurd cc (by omega)) (fun cc => ?_)
      refine B_Model_findKept_8 ?_
      simp only [wp_cons, wp_nil, List.getElem?_cons_zero, List.getElem?_cons_succ, List.set_cons_zero, List.set_cons_succ, s_aload_n0, ldA_r, ldA_n, s_getfield, pR_s, ob_s, gt_s, s_iload_n3, ldI_s, s_iconst, s_iastore, iiR_s, ia_s, s_iinc, s1_0, s1_s, kx_i, kx_r, kx_n, kx_l, kx_0, I_add, s_goto, true_and, and_true, Nat.le_refl, true_implies, forall_const, not_false_eq_true, false_implies, not_true_eq_false, reduceCtorEq, tl_s, tl_n, rf_s, List.cons_append, List.nil_append, true_or, or_true, hm.c, hm.g6, upd_ui, ex_ix (i := i) (n := 31) (by omega)]
      refine ih (i + 1) _ _ _ _ (by omega) (hc.tr (chg.set _ (by omega))) hm2 (fun n hn => by rw [ua_n _ _ _ hn, e2 n hn]) (fun j hj => ?_)
      rw [ua_s]
      by_cases q : j = i
      · rw [q, ui_s]
      · rw [ui_n _ _ q]; exact e6 j (by omega)
  refine Call.intro (by rfl) (Nat.le_of_ble_eq_true rfl) ?_
  refine G.eqL (L := [some (.ref _), some (.int _), some (.int _), none, none, none]) rfl ?_
  refine B_Model_findKept_0 ?_
  simp only [wp_cons, wp_nil, List.getElem?_cons_zero, List.getElem?_cons_succ, List.set_cons_zero, List.set_cons_succ, s_iconst, s_istore_n3, p1_s, s1_0, s1_s, kx_i, kx_r, kx_n, kx_l, kx_0, true_and, and_true, Nat.le_refl, true_implies, forall_const, not_false_eq_true, false_implies, not_true_eq_false, reduceCtorEq, tl_s, tl_n, rf_s, List.cons_append, List.nil_append, true_or, or_true]
  exact loop 31 0 h0 A0 _ _ (by omega) chg.rf hm0 (fun n _ => rfl) (fun j hj => absurd hj (by omega))
