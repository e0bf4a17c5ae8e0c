/-! ===== the reference: reading numbers and points ===== -/
def txm (r : Nat → Int) (A : Nat → Nat → Int) (T : List Int) : Prop := r 5 = T.length ∧ (∀ i, i < T.length → A 4 i = pg T i) ∧ wfT T
theorem txm.kp {r r' : Nat → Int} {A A' : Nat → Nat → Int} {T : List Int} (q : txm r A T) (h5 : r' 5 = r 5) (h4 : A' 4 = A 4) : txm r' A' T := ⟨h5.trans q.1, by rw [h4]; exact q.2.1, q.2.2⟩
theorem Mdl_ch_c {d M i : Nat} {T : List Int} {r : Nat → Int} {A : Nat → Nat → Int} {h : g_H} {Q : g_Po} (hm : mdl h M r A) (ht : txm r A T) (hi : i < 1000) (hQ : Q (some (.int (I (cht T i)))) h) : Call Model_character d 0 0 [.ref M, .int (I (i : Int))] h Q := by
  obtain ⟨t1, t2, t3⟩ := ht
  have tl := t3.1
  unfold cht at hQ
  refine Call.intro (by rfl) (Nat.le_of_ble_eq_true rfl) ?_
  refine G.eqL (L := [some (.ref _), some (.int _)]) rfl ?_
  by_cases c : i < T.length
  · rw [if_pos c, ← t2 i c] at hQ
    refine B_Model_character_0 ?_
    simp only [wp_cons, wp_nil, List.getElem?_cons_zero, List.getElem?_cons_succ, List.set_cons_zero, List.set_cons_succ, s_iload_n1, ldI_s, s_aload_n0, ldA_r, ldA_n, s_getfield, pR_s, ob_s, gt_s, s_if_icmp_ge, p2_s, true_and, and_true, Nat.le_refl, true_implies, forall_const, not_false_eq_true, false_implies, not_true_eq_false, reduceCtorEq, tl_s, tl_n, rf_s, List.cons_append, List.nil_append, true_or, or_true, hm.c, t1, hm.g4, ex_ix (i := i) (n := 80) (by omega)]
    refine b_le (by omega) (by omega) (fun cc => absurd cc (by omega)) (fun cc => ?_)
    refine B_Model_character_8 ?_
    simp only [wp_cons, wp_nil, List.getElem?_cons_zero, List.getElem?_cons_succ, List.set_cons_zero, List.set_cons_succ, s_aload_n0, ldA_r, ldA_n, s_getfield, pR_s, ob_s, gt_s, s_iload_n1, ldI_s, s_iaload, iR_s, ia_s, s_goto, true_and, and_true, Nat.le_refl, true_implies, forall_const, not_false_eq_true, false_implies, not_true_eq_false, reduceCtorEq, tl_s, tl_n, rf_s, List.cons_append, List.nil_append, true_or, or_true, hm.c, t1, hm.g4, ex_ix (i := i) (n := 80) (by omega)]
    refine B_Model_character_18 ?_
    simp only [wp_cons, wp_nil, List.getElem?_cons_zero, List.getElem?_cons_succ, List.set_cons_zero, List.set_cons_succ, s_ireturn, p1_s, rI_i, rI_z, rI_c, z_01, z_11, rt_Model_character, true_and, and_true, Nat.le_refl, true_implies, forall_const, not_false_eq_true, false_implies, not_true_eq_false, reduceCtorEq, tl_s, tl_n, rf_s, List.cons_append, List.nil_append, true_or, or_true, hm.c, t1, hm.g4, ex_ix (i := i) (n := 80) (by omega)]
    exact hQ
  · rw [if_neg c] at hQ
    refine B_Model_character_0 ?_
    simp only [wp_cons, wp_nil, List.getElem?_cons_zero, List.getElem?_cons_succ, List.set_cons_zero, List.set_cons_succ, s_iload_n1, ldI_s, s_aload_n0, ldA_r, ldA_n, s_getfield, pR_s, ob_s, gt_s, s_if_icmp_ge, p2_s, true_and, and_true, Nat.le_refl, true_implies, forall_const, not_false_eq_true, false_implies, not_true_eq_false, reduceCtorEq, tl_s, tl_n, rf_s, List.cons_append, List.nil_append, true_or, or_true, hm.c, t1]
    refine b_le (by omega) (by omega) (fun cc => ?_) (fun cc => absurd cc (by omega))
    refine B_Model_character_17 ?_
    simp only [wp_cons, wp_nil, List.getElem?_cons_zero, List.getElem?_cons_succ, List.set_cons_zero, List.set_cons_succ, s_iconst, true_and, and_true, Nat.le_refl, true_implies, forall_const, not_false_eq_true, false_implies, not_true_eq_false, reduceCtorEq, tl_s, tl_n, rf_s, List.cons_append, List.nil_append, true_or, or_true, hm.c, t1]
    refine B_Model_character_18 ?_
    simp only [wp_cons, wp_nil, List.getElem?_cons_zero, List.getElem?_cons_succ, List.set_cons_zero, List.set_cons_succ, s_ireturn, p1_s, rI_i, rI_z, rI_c, z_01, z_11, rt_Model_character, true_and, and_true, Nat.le_refl, true_implies, forall_const, not_false_eq_true, false_implies, not_true_eq_false, reduceCtorEq, tl_s, tl_n, rf_s, List.cons_append, List.nil_append, true_or, or_true, hm.c, t1]
    exact hQ
theorem cht_bd {T : List Int} (w : wfT T) (i : Nat) : -1 ≤ cht T i ∧ cht T i ≤ 126 := by
  unfold cht
  split
  · have := w.2 i (by assumption); omega
  · omega
theorem Mdl_nx_c {d M i : Nat} {c : Int} {T : List Int} {r : Nat → Int} {A : Nat → Nat → Int} {h : g_H} {Q : g_Po} (d1 : 1 ≤ d) (hm : mdl h M r A) (ht : txm r A T) (hi : r 15 = i) (hi2 : i < 1000) (hc : 0 ≤ c ∧ c ≤ 126) (hT : i < T.length ∧ pg T i = c → ∀ h' r', chg M (M + 10) h h' → mdl h' M r' A → (∀ n, n ≠ 15 → r' n = r n) → r' 15 = ((i + 1 : Nat) : Int) → Q (some (.int (I 1))) h') (hF : ¬ (i < T.length ∧ pg T i = c) → ∀ h' r', chg M (M + 10) h h' → mdl h' M r' A → (∀ n, n ≠ 15 → r' n = r n) → r' 15 = (i : Int) → Q (some (.int (I 0))) h') : Call Model_isNext d 0 0 [.ref M, .int (I c)] h Q := by
  have hb := cht_bd ht.2.2 i
  have m1 := hm.f15 ((i : Int) + 1)
  have m0 := hm.f15 (i : Int)
  refine Call.intro (by rfl) (Nat.le_of_ble_eq_true rfl) ?_
  refine G.eqL (L := [some (.ref _), some (.int _), none]) rfl ?_
  refine B_Model_isNext_0 ?_
  simp only [wp_cons, wp_nil, List.getElem?_cons_zero, List.getElem?_cons_succ, List.set_cons_zero, List.set_cons_succ, s_aload_n0, ldA_r, ldA_n, s_getfield, pR_s, ob_s, gt_s, s_invokevirtual, rc_s, List.drop_succ_cons, List.drop_zero, List.take_succ_cons, List.take_zero, List.reverse_cons, List.reverse_nil, List.nil_append, List.cons_append, List.length_cons, List.length_nil, d1, Int.reduceToNat, Nat.reduceAdd, Nat.reduceLeDiff, true_and, and_true, Nat.le_refl, true_implies, forall_const, not_false_eq_true, false_implies, not_true_eq_false, reduceCtorEq, tl_s, tl_n, rf_s, true_or, or_true, hm.c, hi]
  refine Mdl_ch_c hm ht hi2 ?_
  by_cases e : cht T i = c
  · have e2 : i < T.length ∧ pg T i = c := by
      unfold cht at e
      split at e
      · exact ⟨by assumption, e⟩
      · omega
    refine B_Model_isNext_8 ?_
    simp only [wp_cons, wp_nil, List.getElem?_cons_zero, List.getElem?_cons_succ, List.set_cons_zero, List.set_cons_succ, s_iload_n1, ldI_s, s_if_icmp_ne, p2_s, true_and, and_true, Nat.le_refl, true_implies, forall_const, not_false_eq_true, false_implies, not_true_eq_false, reduceCtorEq, tl_s, tl_n, rf_s, List.cons_append, List.nil_append, true_or, or_true, hm.c, hi, m1.c, Nat.reduceLT, Nat.reduceAdd]
    refine b_ne (by omega) (by omega) (fun cc => absurd cc (by omega)) (fun cc => ?_)
    refine B_Model_isNext_12 ?_
    simp only [wp_cons, wp_nil, List.getElem?_cons_zero, List.getElem?_cons_succ, List.set_cons_zero, List.set_cons_succ, s_iconst, s_goto, true_and, and_true, Nat.le_refl, true_implies, forall_const, not_false_eq_true, false_implies, not_true_eq_false, reduceCtorEq, tl_s, tl_n, rf_s, List.cons_append, List.nil_append, true_or, or_true, hm.c, hi, m1.c, Nat.reduceLT, Nat.reduceAdd]
    refine B_Model_isNext_17 ?_
    simp only [wp_cons, wp_nil, List.getElem?_cons_zero, List.getElem?_cons_succ, List.set_cons_zero, List.set_cons_succ, s_istore_n2, p1_s, s1_0, s1_s, kx_i, kx_r, kx_n, kx_l, kx_0, s_aload_n0, ldA_r, ldA_n, s_dup, p1v_i, p1v_r, s_getfield, pR_s, ob_s, gt_s, s_iload_n2, ldI_s, s_ifCond_eq, true_and, and_true, Nat.le_refl, true_implies, forall_const, not_false_eq_true, false_implies, not_true_eq_false, reduceCtorEq, tl_s, tl_n, rf_s, List.cons_append, List.nil_append, true_or, or_true, hm.c, hi, m1.c, Nat.reduceLT, Nat.reduceAdd]
    refine b_eq (by omega) (by omega) (fun cc => absurd cc (by omega)) (fun cc => ?_)
    refine B_Model_isNext_27 ?_
    simp only [wp_cons, wp_nil, List.getElem?_cons_zero, List.getElem?_cons_succ, List.set_cons_zero, List.set_cons_succ, s_iconst, s_goto, true_and, and_true, Nat.le_refl, true_implies, forall_const, not_false_eq_true, false_implies, not_true_eq_false, reduceCtorEq, tl_s, tl_n, rf_s, List.cons_append, List.nil_append, true_or, or_true, hm.c, hi, m1.c, Nat.reduceLT, Nat.reduceAdd]
    refine B_Model_isNext_32 ?_
    simp only [wp_cons, wp_nil, List.getElem?_cons_zero, List.getElem?_cons_succ, List.set_cons_zero, List.set_cons_succ, s_iadd, p2_s, I_add, s_putfield, pv_i, pv_z, pv_r, pv_f, ob_s, z_01, z_11, List.length_cons, List.length_nil, s_iload_n2, ldI_s, s_ireturn, p1_s, rI_i, rI_z, rI_c, rt_Model_isNext, true_and, and_true, Nat.le_refl, true_implies, forall_const, not_false_eq_true, false_implies, not_true_eq_false, reduceCtorEq, tl_s, tl_n, rf_s, List.cons_append, List.nil_append, true_or, or_true, hm.c, hi, m1.c, Nat.reduceLT, Nat.reduceAdd]
    exact hT e2 _ _ (chg.set _ (by omega)) m1 (fun n hn => ui_n _ _ hn) (by rw [ui_s]; omega)
  · have e2 : ¬ (i < T.length ∧ pg T i = c) := by
      rintro ⟨q1, q2⟩
      unfold cht at e
      rw [if_pos q1] at e
      exact e q2
    refine B_Model_isNext_8 ?_
    simp only [wp_cons, wp_nil, List.getElem?_cons_zero, List.getElem?_cons_succ, List.set_cons_zero, List.set_cons_succ, s_iload_n1, ldI_s, s_if_icmp_ne, p2_s, true_and, and_true, Nat.le_refl, true_implies, forall_const, not_false_eq_true, false_implies, not_true_eq_false, reduceCtorEq, tl_s, tl_n, rf_s, List.cons_append, List.nil_append, true_or, or_true, hm.c, hi, m0.c, Int.add_zero, Nat.reduceLT, Nat.reduceAdd]
    refine b_ne (by omega) (by omega) (fun cc => ?_) (fun cc => absurd cc (by omega))
    refine B_Model_isNext_16 ?_
    simp only [wp_cons, wp_nil, List.getElem?_cons_zero, List.getElem?_cons_succ, List.set_cons_zero, List.set_cons_succ, s_iconst, true_and, and_true, Nat.le_refl, true_implies, forall_const, not_false_eq_true, false_implies, not_true_eq_false, reduceCtorEq, tl_s, tl_n, rf_s, List.cons_append, List.nil_append, true_or, or_true, hm.c, hi, m0.c, Int.add_zero, Nat.reduceLT, Nat.reduceAdd]
    refine B_Model_isNext_17 ?_
    simp only [wp_cons, wp_nil, List.getElem?_cons_zero, List.getElem?_cons_succ, List.set_cons_zero, List.set_cons_succ, s_istore_n2, p1_s, s1_0, s1_s, kx_i, kx_r, kx_n, kx_l, kx_0, s_aload_n0, ldA_r, ldA_n, s_dup, p1v_i, p1v_r, s_getfield, pR_s, ob_s, gt_s, s_iload_n2, ldI_s, s_ifCond_eq, true_and, and_true, Nat.le_refl, true_implies, forall_const, not_false_eq_true, false_implies, not_true_eq_false, reduceCtorEq, tl_s, tl_n, rf_s, List.cons_append, List.nil_append, true_or, or_true, hm.c, hi, m0.c, Int.add_zero, Nat.reduceLT, Nat.reduceAdd]
    refine B_Model_isNext_31 ?_
    simp only [wp_cons, wp_nil, List.getElem?_cons_zero, List.getElem?_cons_succ, List.set_cons_zero, List.set_cons_succ, s_iconst, true_and, and_true, Nat.le_refl, true_implies, forall_const, not_false_eq_true, false_implies, not_true_eq_false, reduceCtorEq, tl_s, tl_n, rf_s, List.cons_append, List.nil_append, true_or, or_true, hm.c, hi, m0.c, Int.add_zero, Nat.reduceLT, Nat.reduceAdd]
    refine B_Model_isNext_32 ?_
    simp only [wp_cons, wp_nil, List.getElem?_cons_zero, List.getElem?_cons_succ, List.set_cons_zero, List.set_cons_succ, s_iadd, p2_s, I_add, s_putfield, pv_i, pv_z, pv_r, pv_f, ob_s, z_01, z_11, List.length_cons, List.length_nil, s_iload_n2, ldI_s, s_ireturn, p1_s, rI_i, rI_z, rI_c, rt_Model_isNext, true_and, and_true, Nat.le_refl, true_implies, forall_const, not_false_eq_true, false_implies, not_true_eq_false, reduceCtorEq, tl_s, tl_n, rf_s, List.cons_append, List.nil_append, true_or, or_true, hm.c, hi, m0.c, Int.add_zero, Nat.reduceLT, Nat.reduceAdd]
    exact hF e2 _ _ (chg.set _ (by omega)) m0 (fun n hn => ui_n _ _ hn) (by rw [ui_s])
theorem Mdl_num_c {d M i : Nat} {T : List Int} {r : Nat → Int} {A : Nat → Nat → Int} {h : g_H} {Q : g_Po} (d1 : 1 ≤ d) (hm : mdl h M r A) (ht : txm r A T) (hi : r 15 = i) (hi2 : i ≤ T.length)
    (hQ : ∀ h' r' j, chg M (M + 10) h h' → mdl h' M r' A → (∀ n, n ≠ 15 → n ≠ 17 → r' n = r n) → r' 15 = ((i + j : Nat) : Int) → r' 17 = nmv T i j → j ≤ 3 → i + j ≤ T.length → (∀ k, k < j → dgt (pg T (i + k))) → (j < 3 → i + j = T.length ∨ ¬ dgt (pg T (i + j))) → Q (some (.int (I (if 0 < j then 1 else 0)))) h') : Call Model_readsNumber d 0 0 [.ref M] h Q := by
  have tl := ht.2.2.1
  have fin : ∀ (j : Nat) (h1 : g_H) (r1 : Nat → Int), chg M (M + 10) h h1 → mdl h1 M r1 A → (∀ n, n ≠ 15 → n ≠ 17 → r1 n = r n) → r1 15 = ((i + j : Nat) : Int) → r1 17 = nmv T i j → j ≤ 3 → i + j ≤ T.length → (∀ k, k < j → dgt (pg T (i + k))) → (j < 3 → i + j = T.length ∨ ¬ dgt (pg T (i + j))) → G Model_readsNumber d 0 0 0 0 69 [some (.ref M), some (.int (I (j : Int)))] [] h1 Q := by
    intro j h1 r1 c1 m1 e1 e15 e17 hj hl hd hs
    have q := hQ h1 r1 j c1 m1 e1 e15 e17 hj hl hd hs
    by_cases c : 0 < j
    · rw [if_pos c] at q
      refine B_Model_readsNumber_69 ?_
      simp only [wp_cons, wp_nil, List.getElem?_cons_zero, List.getElem?_cons_succ, List.set_cons_zero, List.set_cons_succ, s_iload_n1, ldI_s, s_ifCond_le, p1_s, true_and, and_true, Nat.le_refl, true_implies, forall_const, not_false_eq_true, false_implies, not_true_eq_false, reduceCtorEq, tl_s, tl_n, rf_s, List.cons_append, List.nil_append, true_or, or_true, m1.c]
      refine b_le (by omega) (by omega) (fun cc => absurd cc (by omega)) (fun cc => ?_)
      refine B_Model_readsNumber_73 ?_
      simp only [wp_cons, wp_nil, List.getElem?_cons_zero, List.getElem?_cons_succ, List.set_cons_zero, List.set_cons_succ, s_iconst, s_goto, true_and, and_true, Nat.le_refl, true_implies, forall_const, not_false_eq_true, false_implies, not_true_eq_false, reduceCtorEq, tl_s, tl_n, rf_s, List.cons_append, List.nil_append, true_or, or_true, m1.c]
      refine B_Model_readsNumber_78 ?_
      simp only [wp_cons, wp_nil, List.getElem?_cons_zero, List.getElem?_cons_succ, List.set_cons_zero, List.set_cons_succ, s_ireturn, p1_s, rI_i, rI_z, rI_c, z_01, z_11, rt_Model_readsNumber, true_and, and_true, Nat.le_refl, true_implies, forall_const, not_false_eq_true, false_implies, not_true_eq_false, reduceCtorEq, tl_s, tl_n, rf_s, List.cons_append, List.nil_append, true_or, or_true, m1.c]
      exact q
    · rw [if_neg c] at q
      refine B_Model_readsNumber_69 ?_
      simp only [wp_cons, wp_nil, List.getElem?_cons_zero, List.getElem?_cons_succ, List.set_cons_zero, List.set_cons_succ, s_iload_n1, ldI_s, s_ifCond_le, p1_s, true_and, and_true, Nat.le_refl, true_implies, forall_const, not_false_eq_true, false_implies, not_true_eq_false, reduceCtorEq, tl_s, tl_n, rf_s, List.cons_append, List.nil_append, true_or, or_true, m1.c]
      refine b_le (by omega) (by omega) (fun cc => ?_) (fun cc => absurd cc (by omega))
      refine B_Model_readsNumber_77 ?_
      simp only [wp_cons, wp_nil, List.getElem?_cons_zero, List.getElem?_cons_succ, List.set_cons_zero, List.set_cons_succ, s_iconst, true_and, and_true, Nat.le_refl, true_implies, forall_const, not_false_eq_true, false_implies, not_true_eq_false, reduceCtorEq, tl_s, tl_n, rf_s, List.cons_append, List.nil_append, true_or, or_true, m1.c]
      refine B_Model_readsNumber_78 ?_
      simp only [wp_cons, wp_nil, List.getElem?_cons_zero, List.getElem?_cons_succ, List.set_cons_zero, List.set_cons_succ, s_ireturn, p1_s, rI_i, rI_z, rI_c, z_01, z_11, rt_Model_readsNumber, true_and, and_true, Nat.le_refl, true_implies, forall_const, not_false_eq_true, false_implies, not_true_eq_false, reduceCtorEq, tl_s, tl_n, rf_s, List.cons_append, List.nil_append, true_or, or_true, m1.c]
      exact q
  have loop : ∀ (m j : Nat) (h1 : g_H) (r1 : Nat → Int), j + m = 3 → chg M (M + 10) h h1 → mdl h1 M r1 A → (∀ n, n ≠ 15 → n ≠ 17 → r1 n = r n) → r1 15 = ((i + j : Nat) : Int) → r1 17 = nmv T i j → i + j ≤ T.length → (∀ k, k < j → dgt (pg T (i + k))) → G Model_readsNumber d 0 0 0 0 7 [some (.ref M), some (.int (I (j : Int)))] [] h1 Q := by
    intro m
    induction m with
    | zero =>
      intro j h1 r1 hj c1 m1 e1 e15 e17 hl hd
      obtain rfl : j = 3 := by omega
      refine B_Model_readsNumber_7 ?_
      simp only [wp_cons, wp_nil, List.getElem?_cons_zero, List.getElem?_cons_succ, List.set_cons_zero, List.set_cons_succ, s_iload_n1, ldI_s, s_iconst, s_if_icmp_ge, p2_s, true_and, and_true, Nat.le_refl, true_implies, forall_const, not_false_eq_true, false_implies, not_true_eq_false, reduceCtorEq, tl_s, tl_n, rf_s, List.cons_append, List.nil_append, true_or, or_true, m1.c]
      refine b_le (by omega) (by omega) (fun cc => ?_) (fun cc => absurd cc (by omega))
      exact fin 3 h1 r1 c1 m1 e1 e15 e17 (by omega) hl hd (fun q => absurd q (by omega))
    | succ m ih =>
      intro j h1 r1 hj c1 m1 e1 e15 e17 hl hd
      have ht1 := ht.kp (r' := r1) (A' := A) (e1 5 (by omega) (by omega)) rfl
      have hb := cht_bd ht.2.2 (i + j)
      have hn := nmv_bd j hd (by omega)
      refine B_Model_readsNumber_7 ?_
      simp only [wp_cons, wp_nil, List.getElem?_cons_zero, List.getElem?_cons_succ, List.set_cons_zero, List.set_cons_succ, s_iload_n1, ldI_s, s_iconst, s_if_icmp_ge, p2_s, true_and, and_true, Nat.le_refl, true_implies, forall_const, not_false_eq_true, false_implies, not_true_eq_false, reduceCtorEq, tl_s, tl_n, rf_s, List.cons_append, List.nil_append, true_or, or_true, m1.c, e15]
      refine b_le (by omega) (by omega) (fun cc => absurd cc (by omega)) (fun cc => ?_)
      refine B_Model_readsNumber_12 ?_
      simp only [wp_cons, wp_nil, List.getElem?_cons_zero, List.getElem?_cons_succ, List.set_cons_zero, List.set_cons_succ, s_aload_n0, ldA_r, ldA_n, s_getfield, pR_s, ob_s, gt_s, s_invokevirtual, rc_s, List.drop_succ_cons, List.drop_zero, List.take_succ_cons, List.take_zero, List.reverse_cons, List.reverse_nil, List.nil_append, List.cons_append, List.length_cons, List.length_nil, d1, Int.reduceToNat, Nat.reduceAdd, Nat.reduceLeDiff, true_and, and_true, Nat.le_refl, true_implies, forall_const, not_false_eq_true, false_implies, not_true_eq_false, reduceCtorEq, tl_s, tl_n, rf_s, true_or, or_true, m1.c, e15]
      refine Mdl_ch_c m1 ht1 (by omega) ?_
      refine B_Model_readsNumber_20 ?_
      simp only [wp_cons, wp_nil, List.getElem?_cons_zero, List.getElem?_cons_succ, List.set_cons_zero, List.set_cons_succ, s_bipush, s_invokestatic, rc_s, ob_s, List.drop_succ_cons, List.drop_zero, List.take_succ_cons, List.take_zero, List.reverse_cons, List.reverse_nil, List.nil_append, List.cons_append, List.length_cons, List.length_nil, Nat.reduceEqDiff, reduceIte, p1_s, p2_s, l1_s, d1, Int.reduceToNat, Nat.reduceAdd, Nat.reduceLeDiff, true_and, and_true, Nat.le_refl, true_implies, forall_const, not_false_eq_true, false_implies, not_true_eq_false, reduceCtorEq, tl_s, tl_n, rf_s, true_or, or_true, m1.c, e15]
      refine Mdl_within_c (by omega) (by omega) (by omega) (fun c => ?_) (fun c => ?_)
      · have hlt : i + j < T.length := by
          unfold cht at c
          split at c <;> omega
        have ec : cht T (i + j) = pg T (i + j) := if_pos hlt
        have m2 := m1.f17 (10 * nmv T i j + cht T (i + j) - 48)
        have m3 := m2.f15 (ui r1 17 (10 * nmv T i j + cht T (i + j) - 48) 15 + 1)
        have n15 : ui r1 17 (10 * nmv T i j + cht T (i + j) - 48) 15 = ((i + j : Nat) : Int) := by rw [ui_n _ _ (by omega), e15]
        refine B_Model_readsNumber_27 ?_
        simp only [wp_cons, wp_nil, List.getElem?_cons_zero, List.getElem?_cons_succ, List.set_cons_zero, List.set_cons_succ, s_ifCond_eq, p1_s, true_and, and_true, Nat.le_refl, true_implies, forall_const, not_false_eq_true, false_implies, not_true_eq_false, reduceCtorEq, tl_s, tl_n, rf_s, List.cons_append, List.nil_append, true_or, or_true, m1.c, e17, m2.c, Nat.reduceLT, Nat.reduceAdd]
        refine b_eq (by omega) (by omega) (fun cc => absurd cc (by omega)) (fun cc => ?_)
        refine B_Model_readsNumber_30 ?_
        simp only [wp_cons, wp_nil, List.getElem?_cons_zero, List.getElem?_cons_succ, List.set_cons_zero, List.set_cons_succ, s_aload_n0, ldA_r, ldA_n, s_bipush, s_getfield, pR_s, ob_s, gt_s, s_imul, p2_s, I_mul, s_invokevirtual, rc_s, List.drop_succ_cons, List.drop_zero, List.take_succ_cons, List.take_zero, List.reverse_cons, List.reverse_nil, List.nil_append, List.cons_append, List.length_cons, List.length_nil, d1, Int.reduceToNat, Nat.reduceAdd, Nat.reduceLeDiff, true_and, and_true, Nat.le_refl, true_implies, forall_const, not_false_eq_true, false_implies, not_true_eq_false, reduceCtorEq, tl_s, tl_n, rf_s, true_or, or_true, m1.c, e17, m2.c, Nat.reduceLT]
        rw [e15]
        refine Mdl_ch_c m1 ht1 (by omega) ?_
        refine B_Model_readsNumber_46 ?_
        simp only [wp_cons, wp_nil, List.getElem?_cons_zero, List.getElem?_cons_succ, List.set_cons_zero, List.set_cons_succ, s_iadd, p2_s, I_add, s_bipush, s_isub, I_sub, s_putfield, pv_i, pv_z, pv_r, pv_f, ob_s, z_01, z_11, List.length_cons, List.length_nil, s_iinc, ldI_s, s1_0, s1_s, kx_i, kx_r, kx_n, kx_l, kx_0, s_aload_n0, ldA_r, ldA_n, s_dup, p1v_i, p1v_r, s_getfield, pR_s, gt_s, s_iconst, s_goto, true_and, and_true, Nat.le_refl, true_implies, forall_const, not_false_eq_true, false_implies, not_true_eq_false, reduceCtorEq, tl_s, tl_n, rf_s, List.cons_append, List.nil_append, true_or, or_true, m1.c, e17, m2.c, Nat.reduceLT, Nat.reduceAdd]
        refine ih (j + 1) _ _ (by omega) ((c1.tr (chg.set _ (by omega))).tr (chg.set _ (by omega))) m3 (fun n h15 h17 => by rw [ui_n _ _ h15, ui_n _ _ h17, e1 n h15 h17]) (by rw [ui_s, n15]; omega) ?_ (by omega) (fun k hk => ?_)
        · rw [ui_n _ _ (by omega), ui_s, ec]
          show _ = 10 * nmv T i j + (pg T (i + j) - 48)
          omega
        · by_cases e : k = j
          · rw [e]; rw [ec] at c; exact c
          · exact hd k (by omega)
      · refine B_Model_readsNumber_27 ?_
        simp only [wp_cons, wp_nil, List.getElem?_cons_zero, List.getElem?_cons_succ, List.set_cons_zero, List.set_cons_succ, s_ifCond_eq, p1_s, true_and, and_true, Nat.le_refl, true_implies, forall_const, not_false_eq_true, false_implies, not_true_eq_false, reduceCtorEq, tl_s, tl_n, rf_s, List.cons_append, List.nil_append, true_or, or_true, m1.c, e15]
        refine fin j h1 r1 c1 m1 e1 e15 e17 (by omega) hl hd (fun _ => ?_)
        by_cases e : i + j = T.length
        · exact Or.inl e
        · refine Or.inr (fun q => c ?_)
          rw [show cht T (i + j) = pg T (i + j) from if_pos (by omega)]
          exact q
  have m1 := hm.f17 0
  refine Call.intro (by rfl) (Nat.le_of_ble_eq_true rfl) ?_
  refine G.eqL (L := [some (.ref _), none]) rfl ?_
  refine B_Model_readsNumber_0 ?_
  simp only [wp_cons, wp_nil, List.getElem?_cons_zero, List.getElem?_cons_succ, List.set_cons_zero, List.set_cons_succ, s_aload_n0, ldA_r, ldA_n, s_iconst, s_putfield, pv_i, pv_z, pv_r, pv_f, ob_s, z_01, z_11, List.length_cons, List.length_nil, s_istore_n1, p1_s, s1_0, s1_s, kx_i, kx_r, kx_n, kx_l, kx_0, true_and, and_true, Nat.le_refl, true_implies, forall_const, not_false_eq_true, false_implies, not_true_eq_false, reduceCtorEq, tl_s, tl_n, rf_s, List.cons_append, List.nil_append, true_or, or_true, hm.c, Nat.reduceLT, Nat.reduceAdd]
  exact loop 3 0 _ _ (by omega) (chg.set _ (by omega)) m1 (fun n h15 h17 => ui_n _ _ h17) (by rw [ui_n _ _ (by omega), hi]; rfl) (by rw [ui_s]; rfl) (by omega) (fun k hk => absurd hk (by omega))
theorem Mdl_rp_c {d M i : Nat} {T : List Int} {r : Nat → Int} {A : Nat → Nat → Int} {h : g_H} {Q : g_Po} (d2 : 2 ≤ d) (hm : mdl h M r A) (ht : txm r A T) (hi : r 15 = i) (hi2 : i ≤ T.length)
    (hT : ∀ h' r' (k : Nat) (x n s : Int), chg M (M + 10) h h' → mdl h' M r' A → (∀ n, n < 15 ∨ 17 < n → r' n = r n) → r' 15 = k → r' 16 = 1000 * x + n → (0 ≤ x ∧ x ≤ 999) → (0 ≤ n ∧ n ≤ 999) → i + 3 ≤ k → k ≤ T.length → (5 ≤ s ∧ s ≤ 7) → (∀ p, dfa T (T.length - i) i 0 p = dfa T (T.length - k) k s p) → (∀ As C x0, prs T (T.length - i) i As C false x0 0 = prs T (T.length - k) k As C false x n) → (s < 7 → k = T.length ∨ ¬ dgt (pg T k)) → Q (some (.int (I 1))) h')
    (hF : ∀ h' r' (k : Nat), chg M (M + 10) h h' → mdl h' M r' A → (∀ n, n < 15 ∨ 17 < n → r' n = r n) → r' 15 = k → k ≤ T.length → (∀ p, dfa T (T.length - i) i 0 p = k) → Q (some (.int (I 0))) h') : Call Model_readsPoint d 0 0 [.ref M] h Q := by
  have d1 : 1 ≤ d := by omega
  have tl := ht.2.2.1
  have bad : ∀ (h1 : g_H) (r1 : Nat → Int) (k : Nat) (x : Int) (x1 : Option Value), chg M (M + 10) h h1 → mdl h1 M r1 A → (∀ n, n < 15 ∨ 17 < n → r1 n = r n) → r1 15 = k → k ≤ T.length → (∀ p, dfa T (T.length - i) i 0 p = k) → G Model_readsPoint d 0 0 0 0 34 [some (.ref M), x1, some (.int (I x))] [] h1 Q := by
    intro h1 r1 k x x1 c1 m1 e1 e15 hk hd
    have m2 := m1.f16 (1000 * x + r1 17)
    refine B_Model_readsPoint_34 ?_
    simp only [wp_cons, wp_nil, List.getElem?_cons_zero, List.getElem?_cons_succ, List.set_cons_zero, List.set_cons_succ, s_iconst, true_and, and_true, Nat.le_refl, true_implies, forall_const, not_false_eq_true, false_implies, not_true_eq_false, reduceCtorEq, tl_s, tl_n, rf_s, List.cons_append, List.nil_append, true_or, or_true, m1.c, m2.c, Nat.reduceLT, Nat.reduceAdd]
    refine B_Model_readsPoint_35 ?_
    simp only [wp_cons, wp_nil, List.getElem?_cons_zero, List.getElem?_cons_succ, List.set_cons_zero, List.set_cons_succ, s_istore_n1, p1_s, s1_0, s1_s, kx_i, kx_r, kx_n, kx_l, kx_0, s_aload_n0, ldA_r, ldA_n, s_iload_n2, ldI_s, s_getfield, pR_s, ob_s, gt_s, s_invokestatic, rc_s, List.drop_succ_cons, List.drop_zero, List.take_succ_cons, List.take_zero, List.reverse_cons, List.reverse_nil, List.nil_append, List.cons_append, List.length_cons, List.length_nil, Nat.reduceEqDiff, reduceIte, p2_s, l1_s, d1, Int.reduceToNat, Nat.reduceAdd, Nat.reduceLeDiff, true_and, and_true, Nat.le_refl, true_implies, forall_const, not_false_eq_true, false_implies, not_true_eq_false, reduceCtorEq, tl_s, tl_n, rf_s, true_or, or_true, m1.c, m2.c, Nat.reduceLT]
    refine Mdl_pt_c ?_
    refine B_Model_readsPoint_45 ?_
    simp only [wp_cons, wp_nil, List.getElem?_cons_zero, List.getElem?_cons_succ, List.set_cons_zero, List.set_cons_succ, s_putfield, pv_i, pv_z, pv_r, pv_f, ob_s, z_01, z_11, List.length_cons, List.length_nil, s_iload_n1, ldI_s, s_ireturn, p1_s, rI_i, rI_z, rI_c, rt_Model_readsPoint, true_and, and_true, Nat.le_refl, true_implies, forall_const, not_false_eq_true, false_implies, not_true_eq_false, reduceCtorEq, tl_s, tl_n, rf_s, List.cons_append, List.nil_append, true_or, or_true, m1.c, m2.c, Nat.reduceLT, Nat.reduceAdd]
    exact hF _ _ k (c1.tr (chg.set _ (by omega))) m2 (fun n hn => by rw [ui_n _ _ (by omega), e1 n hn]) (by rw [ui_n _ _ (by omega), e15]) hk hd
  refine Call.intro (by rfl) (Nat.le_of_ble_eq_true rfl) ?_
  refine G.eqL (L := [some (.ref _), none, none]) rfl ?_
  refine B_Model_readsPoint_0 ?_
  simp only [wp_cons, wp_nil, List.getElem?_cons_zero, List.getElem?_cons_succ, List.set_cons_zero, List.set_cons_succ, s_aload_n0, ldA_r, ldA_n, s_invokevirtual, rc_s, ob_s, List.drop_succ_cons, List.drop_zero, List.take_succ_cons, List.take_zero, List.reverse_cons, List.reverse_nil, List.nil_append, List.cons_append, List.length_cons, List.length_nil, d1, Int.reduceToNat, Nat.reduceAdd, Nat.reduceLeDiff, true_and, and_true, Nat.le_refl, true_implies, forall_const, not_false_eq_true, false_implies, not_true_eq_false, reduceCtorEq, tl_s, tl_n, rf_s, true_or, or_true, hm.c]
  refine Mdl_num_c (by omega) hm ht hi hi2 (fun h1 r1 j c1 m1 e1 e15 e17 hj hl hd hs => ?_)
  have hn := nmv_bd j hd hj
  have ht1 := ht.kp (r' := r1) (A' := A) (e1 5 (by omega) (by omega)) rfl
  have dn := fun p => dfa_num (T := T) (i := i) (s0 := 0) (p := p) (Or.inl rfl) j hj hl hd
  have pn := fun As C x => prs_num (T := T) (i := i) (A := As) (C := C) (z := false) (x := x) j hl hd
  have stop : (¬ (0 < j ∧ i + j < T.length ∧ pg T (i + j) = 44)) → ∀ p, dfa T (T.length - i) i 0 p = ((i + j : Nat) : Int) := by
    intro q p
    rw [dn p]
    refine dfa_stop hl (fun _ => by omega) (fun q2 => ?_)
    unfold nst
    by_cases q3 : 48 ≤ pg T (i + j) ∧ pg T (i + j) ≤ 57
    · have : j = 3 := by
        by_cases q4 : j < 3
        · rcases hs q4 with q5 | q5
          · omega
          · exact absurd q3 q5
        · omega
      rw [if_pos q3, if_pos (by omega)]
    · rw [if_neg q3]
      by_cases q4 : pg T (i + j) = 44
      · rw [if_pos q4, if_neg (by have : ¬ 0 < j := fun q5 => q ⟨q5, q2, q4⟩
                                  omega)]
      · rw [if_neg q4, if_pos (by omega)]
  by_cases c1j : 0 < j
  · rw [if_pos c1j]
    refine B_Model_readsPoint_4 ?_
    simp only [wp_cons, wp_nil, List.getElem?_cons_zero, List.getElem?_cons_succ, List.set_cons_zero, List.set_cons_succ, s_istore_n1, p1_s, s1_0, s1_s, kx_i, kx_r, kx_n, kx_l, kx_0, s_aload_n0, ldA_r, ldA_n, s_getfield, pR_s, ob_s, gt_s, s_istore_n2, s_iload_n1, ldI_s, s_ifCond_eq, true_and, and_true, Nat.le_refl, true_implies, forall_const, not_false_eq_true, false_implies, not_true_eq_false, reduceCtorEq, tl_s, tl_n, rf_s, List.cons_append, List.nil_append, true_or, or_true, m1.c, e17]
    refine b_eq (by omega) (by omega) (fun cc => absurd cc (by omega)) (fun _ => ?_)
    refine B_Model_readsPoint_14 ?_
    simp only [wp_cons, wp_nil, List.getElem?_cons_zero, List.getElem?_cons_succ, List.set_cons_zero, List.set_cons_succ, s_aload_n0, ldA_r, ldA_n, s_bipush, s_invokevirtual, rc_s, ob_s, List.drop_succ_cons, List.drop_zero, List.take_succ_cons, List.take_zero, List.reverse_cons, List.reverse_nil, List.nil_append, List.cons_append, List.length_cons, List.length_nil, d1, Int.reduceToNat, Nat.reduceAdd, Nat.reduceLeDiff, true_and, and_true, Nat.le_refl, true_implies, forall_const, not_false_eq_true, false_implies, not_true_eq_false, reduceCtorEq, tl_s, tl_n, rf_s, true_or, or_true, m1.c, e17]
    refine Mdl_nx_c (by omega) m1 ht1 e15 (by omega) (by omega) (fun q2 h2 r2 c2 m2 e2 e215 => ?_) (fun q2 h2 r2 c2 m2 e2 e215 => ?_)
    · have ht2 := ht1.kp (r' := r2) (A' := A) (e2 5 (by omega)) rfl
      refine B_Model_readsPoint_20 ?_
      simp only [wp_cons, wp_nil, List.getElem?_cons_zero, List.getElem?_cons_succ, List.set_cons_zero, List.set_cons_succ, s_ifCond_eq, p1_s, true_and, and_true, Nat.le_refl, true_implies, forall_const, not_false_eq_true, false_implies, not_true_eq_false, reduceCtorEq, tl_s, tl_n, rf_s, List.cons_append, List.nil_append, true_or, or_true, m1.c, e17]
      refine b_eq (by omega) (by omega) (fun cc => absurd cc (by omega)) (fun _ => ?_)
      refine B_Model_readsPoint_23 ?_
      simp only [wp_cons, wp_nil, List.getElem?_cons_zero, List.getElem?_cons_succ, List.set_cons_zero, List.set_cons_succ, s_aload_n0, ldA_r, ldA_n, s_invokevirtual, rc_s, ob_s, List.drop_succ_cons, List.drop_zero, List.take_succ_cons, List.take_zero, List.reverse_cons, List.reverse_nil, List.nil_append, List.cons_append, List.length_cons, List.length_nil, d1, Int.reduceToNat, Nat.reduceAdd, Nat.reduceLeDiff, true_and, and_true, Nat.le_refl, true_implies, forall_const, not_false_eq_true, false_implies, not_true_eq_false, reduceCtorEq, tl_s, tl_n, rf_s, true_or, or_true, m2.c]
      refine Mdl_num_c (by omega) m2 ht2 e215 (by omega) (fun h3 r3 j2 c3 m3 e3 e315 e317 hj2 hl2 hd2 hs2 => ?_)
      have hn2 := nmv_bd j2 hd2 hj2
      have e44 : ∀ p, nst (0 + j) (pg T (i + j)) p = 4 := by
        intro p
        unfold nst
        rw [q2.2, if_neg (by omega), if_pos rfl, if_pos (by omega)]
      have dn2 : ∀ p, dfa T (T.length - i) i 0 p = dfa T (T.length - (i + j + 1 + j2)) (i + j + 1 + j2) (4 + j2) p := fun p => by
        rw [dn p, dfa_go q2.1 (by rw [e44]; omega), e44, npt_o (by omega) (by omega)]
        exact dfa_num (Or.inr rfl) j2 hj2 hl2 hd2
      have pn2 : ∀ As C x, prs T (T.length - i) i As C false x 0 = prs T (T.length - (i + j + 1 + j2)) (i + j + 1 + j2) As C false (nmv T i j) (nmv T (i + j + 1) j2) := fun As C x => by
        rw [pn As C x, prs_go q2.1, if_neg (by omega), if_pos q2.2]
        exact prs_num j2 hl2 hd2
      have e12 : ∀ n, n < 15 ∨ 17 < n → r3 n = r n := fun n hn => by rw [e3 n (by omega) (by omega), e2 n (by omega), e1 n (by omega) (by omega)]
      by_cases c2j : 0 < j2
      · rw [if_pos c2j]
        have m4 := m3.f16 (1000 * nmv T i j + r3 17)
        have hn3 : (0 ≤ nmv T i j ∧ nmv T i j ≤ 999) ∧ 0 ≤ nmv T (i + j + 1) j2 ∧ nmv T (i + j + 1) j2 ≤ 999 := by
          constructor
          · have := hn.2
            split at this
            · omega
            · split at this
              · omega
              · split at this <;> omega
          · have := hn2.2
            split at this
            · omega
            · split at this
              · omega
              · split at this <;> omega
        refine B_Model_readsPoint_27 ?_
        simp only [wp_cons, wp_nil, List.getElem?_cons_zero, List.getElem?_cons_succ, List.set_cons_zero, List.set_cons_succ, s_ifCond_eq, p1_s, true_and, and_true, Nat.le_refl, true_implies, forall_const, not_false_eq_true, false_implies, not_true_eq_false, reduceCtorEq, tl_s, tl_n, rf_s, List.cons_append, List.nil_append, true_or, or_true, m3.c]
        refine b_eq (by omega) (by omega) (fun cc => absurd cc (by omega)) (fun _ => ?_)
        refine B_Model_readsPoint_30 ?_
        simp only [wp_cons, wp_nil, List.getElem?_cons_zero, List.getElem?_cons_succ, List.set_cons_zero, List.set_cons_succ, s_iconst, s_goto, true_and, and_true, Nat.le_refl, true_implies, forall_const, not_false_eq_true, false_implies, not_true_eq_false, reduceCtorEq, tl_s, tl_n, rf_s, List.cons_append, List.nil_append, true_or, or_true, m3.c, m4.c, Nat.reduceLT, Nat.reduceAdd]
        refine B_Model_readsPoint_35 ?_
        simp only [wp_cons, wp_nil, List.getElem?_cons_zero, List.getElem?_cons_succ, List.set_cons_zero, List.set_cons_succ, s_istore_n1, p1_s, s1_0, s1_s, kx_i, kx_r, kx_n, kx_l, kx_0, s_aload_n0, ldA_r, ldA_n, s_iload_n2, ldI_s, s_getfield, pR_s, ob_s, gt_s, s_invokestatic, rc_s, List.drop_succ_cons, List.drop_zero, List.take_succ_cons, List.take_zero, List.reverse_cons, List.reverse_nil, List.nil_append, List.cons_append, List.length_cons, List.length_nil, Nat.reduceEqDiff, reduceIte, p2_s, l1_s, d1, Int.reduceToNat, Nat.reduceAdd, Nat.reduceLeDiff, true_and, and_true, Nat.le_refl, true_implies, forall_const, not_false_eq_true, false_implies, not_true_eq_false, reduceCtorEq, tl_s, tl_n, rf_s, true_or, or_true, m3.c, m4.c, Nat.reduceLT]
        refine Mdl_pt_c ?_
        refine B_Model_readsPoint_45 ?_
        simp only [wp_cons, wp_nil, List.getElem?_cons_zero, List.getElem?_cons_succ, List.set_cons_zero, List.set_cons_succ, s_putfield, pv_i, pv_z, pv_r, pv_f, ob_s, z_01, z_11, List.length_cons, List.length_nil, s_iload_n1, ldI_s, s_ireturn, p1_s, rI_i, rI_z, rI_c, rt_Model_readsPoint, true_and, and_true, Nat.le_refl, true_implies, forall_const, not_false_eq_true, false_implies, not_true_eq_false, reduceCtorEq, tl_s, tl_n, rf_s, List.cons_append, List.nil_append, true_or, or_true, m3.c, m4.c, Nat.reduceLT, Nat.reduceAdd]
        exact hT _ _ (i + j + 1 + j2) (nmv T i j) (nmv T (i + j + 1) j2) (4 + j2) (((c1.tr c2).tr c3).tr (chg.set _ (by omega))) m4 (fun n hn => by rw [ui_n _ _ (by omega), e12 n hn]) (by rw [ui_n _ _ (by omega), e315]) (by rw [ui_s, e317]) hn3.1 hn3.2 (by omega) (by omega) (by omega) dn2 pn2 (fun q => hs2 (by omega))
      · rw [if_neg c2j]
        obtain rfl : j2 = 0 := by omega
        refine B_Model_readsPoint_27 ?_
        simp only [wp_cons, wp_nil, List.getElem?_cons_zero, List.getElem?_cons_succ, List.set_cons_zero, List.set_cons_succ, s_ifCond_eq, p1_s, true_and, and_true, Nat.le_refl, true_implies, forall_const, not_false_eq_true, false_implies, not_true_eq_false, reduceCtorEq, tl_s, tl_n, rf_s, List.cons_append, List.nil_append, true_or, or_true, m3.c]
        refine bad h3 r3 (i + j + 1) (nmv T i j) _ ((c1.tr c2).tr c3) m3 e12 e315 (by omega) (fun p => ?_)
        rw [dn2 p]
        refine dfa_stop (by omega) (fun _ => by omega) (fun q3 => ?_)
        have q4 : ¬ dgt (pg T (i + j + 1 + 0)) := (hs2 (by omega)).resolve_left (by omega)
        unfold nst
        rw [if_neg q4]
        by_cases q5 : pg T (i + j + 1 + 0) = 44
        · rw [if_pos q5, if_neg (by omega)]
        · rw [if_neg q5, if_pos (by omega)]
    · refine B_Model_readsPoint_20 ?_
      simp only [wp_cons, wp_nil, List.getElem?_cons_zero, List.getElem?_cons_succ, List.set_cons_zero, List.set_cons_succ, s_ifCond_eq, p1_s, true_and, and_true, Nat.le_refl, true_implies, forall_const, not_false_eq_true, false_implies, not_true_eq_false, reduceCtorEq, tl_s, tl_n, rf_s, List.cons_append, List.nil_append, true_or, or_true, m1.c, e17]
      exact bad h2 r2 (i + j) (nmv T i j) _ (c1.tr c2) m2 (fun n hn => by rw [e2 n (by omega), e1 n (by omega) (by omega)]) e215 hl (stop (fun q => q2 q.2))
  · rw [if_neg c1j]
    refine B_Model_readsPoint_4 ?_
    simp only [wp_cons, wp_nil, List.getElem?_cons_zero, List.getElem?_cons_succ, List.set_cons_zero, List.set_cons_succ, s_istore_n1, p1_s, s1_0, s1_s, kx_i, kx_r, kx_n, kx_l, kx_0, s_aload_n0, ldA_r, ldA_n, s_getfield, pR_s, ob_s, gt_s, s_istore_n2, s_iload_n1, ldI_s, s_ifCond_eq, true_and, and_true, Nat.le_refl, true_implies, forall_const, not_false_eq_true, false_implies, not_true_eq_false, reduceCtorEq, tl_s, tl_n, rf_s, List.cons_append, List.nil_append, true_or, or_true, m1.c, e17]
    exact bad h1 r1 (i + j) (nmv T i j) _ c1 m1 (fun n hn => e1 n (by omega) (by omega)) e15 hl (stop (fun q => c1j q.1))
