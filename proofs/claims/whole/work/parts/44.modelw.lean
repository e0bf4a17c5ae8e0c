/-! ===== the reference: closing signs, the first error ===== -/
theorem Mdl_rc_c {d M k : Nat} {zb : Bool} {T L : List Int} {r : Nat → Int} {A : Nat → Nat → Int} {h : g_H} {Q : g_Po} (d2 : 2 ≤ d) (hm : mdl h M r A) (ht : txm r A T) (hk : r 15 = k) (hk2 : k ≤ T.length) (hp : pts r A L) (hP : stP L) (hl : 2 ≤ L.length) (h19 : i32 (r 19)) (hz : zb = true ↔ 3 ≤ (L.length : Int) ∧ k < T.length ∧ pg T k = 122)
    (hQ : ∀ h' r', chg M (M + 10) h h' → mdl h' M r' A → (∀ n, n < 15 ∨ 15 < n ∧ n < 19 → r' n = r n) → r' 15 = ((k + (if zb = true then 1 else 0) : Nat) : Int) → r' 19 = (if zb = true ∧ pg L 0 = pg L (L.length - 1) then mkb (r 19, r 20) (r 18) 0 else (r 19, r 20)).1 → r' 20 = (if zb = true ∧ pg L 0 = pg L (L.length - 1) then mkb (r 19, r 20) (r 18) 0 else (r 19, r 20)).2 → Q (some (.int (I (sz zb)))) h') : Call Model_readsClosing d 0 0 [.ref M] h Q := by
  have d1 : 1 ≤ d := by omega
  have tl := ht.2.2.1
  obtain ⟨p1, p2, p3⟩ := id hp
  have a0 := p3 0 (by omega)
  have aL := p3 (L.length - 1) (by omega)
  have b0 := hP 0 (by omega)
  have bL := hP (L.length - 1) (by omega)
  have no : ∀ (h1 : g_H) (r1 : Nat → Int) (x1 : Option Value), zb = false → chg M (M + 10) h h1 → mdl h1 M r1 A → (∀ n, n ≠ 15 → r1 n = r n) → r1 15 = (k : Int) → G Model_readsClosing d 0 0 0 0 21 [some (.ref M), x1] [] h1 Q := by
    intro h1 r1 x1 z c1 m1 e1 e15
    rw [z] at hQ
    refine B_Model_readsClosing_21 ?_
    simp only [wp_cons, wp_nil, List.getElem?_cons_zero, List.getElem?_cons_succ, List.set_cons_zero, List.set_cons_succ, s_iconst, true_and, and_true, Nat.le_refl, true_implies, forall_const, not_false_eq_true, false_implies, not_true_eq_false, reduceCtorEq, tl_s, tl_n, rf_s, List.cons_append, List.nil_append, true_or, or_true, m1.c]
    refine B_Model_readsClosing_22 ?_
    simp only [wp_cons, wp_nil, List.getElem?_cons_zero, List.getElem?_cons_succ, List.set_cons_zero, List.set_cons_succ, s_istore_n1, p1_s, s1_0, s1_s, kx_i, kx_r, kx_n, kx_l, kx_0, s_iload_n1, ldI_s, s_ifCond_eq, true_and, and_true, Nat.le_refl, true_implies, forall_const, not_false_eq_true, false_implies, not_true_eq_false, reduceCtorEq, tl_s, tl_n, rf_s, List.cons_append, List.nil_append, true_or, or_true, m1.c]
    refine B_Model_readsClosing_52 ?_
    simp only [wp_cons, wp_nil, List.getElem?_cons_zero, List.getElem?_cons_succ, List.set_cons_zero, List.set_cons_succ, s_iload_n1, ldI_s, s_ireturn, p1_s, rI_i, rI_z, rI_c, z_01, z_11, rt_Model_readsClosing, true_and, and_true, Nat.le_refl, true_implies, forall_const, not_false_eq_true, false_implies, not_true_eq_false, reduceCtorEq, tl_s, tl_n, rf_s, List.cons_append, List.nil_append, true_or, or_true, m1.c]
    refine hQ h1 r1 c1 m1 (fun n hn => e1 n (by omega)) (by rw [e15, if_neg (by decide)]; rfl) ?_ ?_
    · rw [if_neg (fun q => absurd q.1 (by decide)), e1 19 (by omega)]
    · rw [if_neg (fun q => absurd q.1 (by decide)), e1 20 (by omega)]
  refine Call.intro (by rfl) (Nat.le_of_ble_eq_true rfl) ?_
  refine G.eqL (L := [some (.ref _), none]) rfl ?_
  refine B_Model_readsClosing_0 ?_
  simp only [wp_cons, wp_nil, List.getElem?_cons_zero, List.getElem?_cons_succ, List.set_cons_zero, List.set_cons_succ, s_aload_n0, ldA_r, ldA_n, s_getfield, pR_s, ob_s, gt_s, s_iconst, s_if_icmp_lt, p2_s, true_and, and_true, Nat.le_refl, true_implies, forall_const, not_false_eq_true, false_implies, not_true_eq_false, reduceCtorEq, tl_s, tl_n, rf_s, List.cons_append, List.nil_append, true_or, or_true, hm.c, p1]
  refine b_lt (by omega) (by omega) (fun c3 => ?_) (fun c3 => ?_)
  · refine no h r _ ?_ chg.rf hm (fun n _ => rfl) hk
    cases zb with
    | false => rfl
    | true => exact absurd (hz.mp rfl).1 (by omega)
  · refine B_Model_readsClosing_8 ?_
    simp only [wp_cons, wp_nil, List.getElem?_cons_zero, List.getElem?_cons_succ, List.set_cons_zero, List.set_cons_succ, s_aload_n0, ldA_r, ldA_n, s_bipush, s_invokevirtual, rc_s, ob_s, List.drop_succ_cons, List.drop_zero, List.take_succ_cons, List.take_zero, List.reverse_cons, List.reverse_nil, List.nil_append, List.cons_append, List.length_cons, List.length_nil, d1, Int.reduceToNat, Nat.reduceAdd, Nat.reduceLeDiff, true_and, and_true, Nat.le_refl, true_implies, forall_const, not_false_eq_true, false_implies, not_true_eq_false, reduceCtorEq, tl_s, tl_n, rf_s, true_or, or_true, hm.c, p1]
    refine Mdl_nx_c (by omega) hm ht hk (by omega) (by omega) (fun q h1 r1 c1 m1 e1 e15 => ?_) (fun q h1 r1 c1 m1 e1 e15 => ?_)
    · have z : zb = true := hz.mpr ⟨by omega, q.1, q.2⟩
      rw [z] at hQ
      have p1' : r1 12 = (L.length : Int) := by rw [e1 12 (by omega), p1]
      refine B_Model_readsClosing_14 ?_
      simp only [wp_cons, wp_nil, List.getElem?_cons_zero, List.getElem?_cons_succ, List.set_cons_zero, List.set_cons_succ, s_ifCond_eq, p1_s, true_and, and_true, Nat.le_refl, true_implies, forall_const, not_false_eq_true, false_implies, not_true_eq_false, reduceCtorEq, tl_s, tl_n, rf_s, List.cons_append, List.nil_append, true_or, or_true, m1.c, m1.g9, p1', a0, aL, ex_ie (x := 0) (i := 0) (n := 64) rfl (by omega), ex_ie (x := (L.length : Int) - 1) (i := L.length - 1) (n := 64) (by omega) (by omega)]
      refine b_eq (by omega) (by omega) (fun cc => absurd cc (by omega)) (fun _ => ?_)
      refine B_Model_readsClosing_17 ?_
      simp only [wp_cons, wp_nil, List.getElem?_cons_zero, List.getElem?_cons_succ, List.set_cons_zero, List.set_cons_succ, s_iconst, s_goto, true_and, and_true, Nat.le_refl, true_implies, forall_const, not_false_eq_true, false_implies, not_true_eq_false, reduceCtorEq, tl_s, tl_n, rf_s, List.cons_append, List.nil_append, true_or, or_true, m1.c, m1.g9, p1', a0, aL, ex_ie (x := 0) (i := 0) (n := 64) rfl (by omega), ex_ie (x := (L.length : Int) - 1) (i := L.length - 1) (n := 64) (by omega) (by omega)]
      refine B_Model_readsClosing_22 ?_
      simp only [wp_cons, wp_nil, List.getElem?_cons_zero, List.getElem?_cons_succ, List.set_cons_zero, List.set_cons_succ, s_istore_n1, p1_s, s1_0, s1_s, kx_i, kx_r, kx_n, kx_l, kx_0, s_iload_n1, ldI_s, s_ifCond_eq, true_and, and_true, Nat.le_refl, true_implies, forall_const, not_false_eq_true, false_implies, not_true_eq_false, reduceCtorEq, tl_s, tl_n, rf_s, List.cons_append, List.nil_append, true_or, or_true, m1.c, m1.g9, p1', a0, aL, ex_ie (x := 0) (i := 0) (n := 64) rfl (by omega), ex_ie (x := (L.length : Int) - 1) (i := L.length - 1) (n := 64) (by omega) (by omega)]
      refine b_eq (by omega) (by omega) (fun cc => absurd cc (by omega)) (fun _ => ?_)
      refine B_Model_readsClosing_27 ?_
      simp only [wp_cons, wp_nil, List.getElem?_cons_zero, List.getElem?_cons_succ, List.set_cons_zero, List.set_cons_succ, s_aload_n0, ldA_r, ldA_n, s_getfield, pR_s, ob_s, gt_s, s_iconst, s_iaload, iR_s, ia_s, s_isub, p2_s, I_sub, s_if_icmp_ne, true_and, and_true, Nat.le_refl, true_implies, forall_const, not_false_eq_true, false_implies, not_true_eq_false, reduceCtorEq, tl_s, tl_n, rf_s, List.cons_append, List.nil_append, true_or, or_true, m1.c, m1.g9, p1', a0, aL, ex_ie (x := 0) (i := 0) (n := 64) rfl (by omega), ex_ie (x := (L.length : Int) - 1) (i := L.length - 1) (n := 64) (by omega) (by omega)]
      refine b_ne (by omega) (by omega) (fun c4 => ?_) (fun c4 => ?_)
      · refine B_Model_readsClosing_52 ?_
        simp only [wp_cons, wp_nil, List.getElem?_cons_zero, List.getElem?_cons_succ, List.set_cons_zero, List.set_cons_succ, s_iload_n1, ldI_s, s_ireturn, p1_s, rI_i, rI_z, rI_c, z_01, z_11, rt_Model_readsClosing, true_and, and_true, Nat.le_refl, true_implies, forall_const, not_false_eq_true, false_implies, not_true_eq_false, reduceCtorEq, tl_s, tl_n, rf_s, List.cons_append, List.nil_append, true_or, or_true, m1.c, m1.g9, p1', a0, aL, ex_ie (x := 0) (i := 0) (n := 64) rfl (by omega), ex_ie (x := (L.length : Int) - 1) (i := L.length - 1) (n := 64) (by omega) (by omega)]
        refine hQ h1 r1 c1 m1 (fun n hn => e1 n (by omega)) (by rw [e15, if_pos rfl]) ?_ ?_
        · rw [if_neg (fun q => c4 q.2), e1 19 (by omega)]
        · rw [if_neg (fun q => c4 q.2), e1 20 (by omega)]
      · refine B_Model_readsClosing_47 ?_
        simp only [wp_cons, wp_nil, List.getElem?_cons_zero, List.getElem?_cons_succ, List.set_cons_zero, List.set_cons_succ, s_aload_n0, ldA_r, ldA_n, s_iconst, s_invokevirtual, rc_s, ob_s, List.drop_succ_cons, List.drop_zero, List.take_succ_cons, List.take_zero, List.reverse_cons, List.reverse_nil, List.nil_append, List.cons_append, List.length_cons, List.length_nil, d1, Int.reduceToNat, Nat.reduceAdd, Nat.reduceLeDiff, true_and, and_true, Nat.le_refl, true_implies, forall_const, not_false_eq_true, false_implies, not_true_eq_false, reduceCtorEq, tl_s, tl_n, rf_s, true_or, or_true, m1.c, m1.g9, p1', a0, aL, ex_ie (x := 0) (i := 0) (n := 64) rfl (by omega), ex_ie (x := (L.length : Int) - 1) (i := L.length - 1) (n := 64) (by omega) (by omega)]
        refine Mdl_mk_c (v := 0) m1 (by omega) (by rw [e1 19 (by omega)]; exact h19) (fun h2 r2 c2 m2 g1 g19 g20 => ?_)
        rw [e1 19 (by omega), e1 20 (by omega), e1 18 (by omega)] at g19 g20
        refine B_Model_readsClosing_52 ?_
        simp only [wp_cons, wp_nil, List.getElem?_cons_zero, List.getElem?_cons_succ, List.set_cons_zero, List.set_cons_succ, s_iload_n1, ldI_s, s_ireturn, p1_s, rI_i, rI_z, rI_c, z_01, z_11, rt_Model_readsClosing, true_and, and_true, Nat.le_refl, true_implies, forall_const, not_false_eq_true, false_implies, not_true_eq_false, reduceCtorEq, tl_s, tl_n, rf_s, List.cons_append, List.nil_append, true_or, or_true, m2.c]
        refine hQ h2 r2 (c1.tr c2) m2 (fun n hn => by rw [g1 n (by omega), e1 n (by omega)]) (by rw [g1 15 (by omega), e15, if_pos rfl]) ?_ ?_
        · rw [if_pos ⟨rfl, c4⟩, g19]
        · rw [if_pos ⟨rfl, c4⟩, g20]
    · refine B_Model_readsClosing_14 ?_
      simp only [wp_cons, wp_nil, List.getElem?_cons_zero, List.getElem?_cons_succ, List.set_cons_zero, List.set_cons_succ, s_ifCond_eq, p1_s, true_and, and_true, Nat.le_refl, true_implies, forall_const, not_false_eq_true, false_implies, not_true_eq_false, reduceCtorEq, tl_s, tl_n, rf_s, List.cons_append, List.nil_append, true_or, or_true, hm.c, p1]
      refine no h1 r1 _ ?_ c1 m1 e1 e15
      cases zb with
      | false => rfl
      | true => exact absurd (hz.mp rfl).2 q
theorem Mdl_fe_c {d M : Nat} {T : List Int} {r0 : Nat → Int} {A0 : Nat → Nat → Int} {h0 : g_H} {Q : g_Po} (d4 : 4 ≤ d) (hm0 : mdl h0 M r0 A0) (ht0 : txm r0 A0 T)
    (hQ : ∀ h' r' A', chg M (M + 10) h0 h' → mdl h' M r' A' → (∀ n, n < 12 → r' n = r0 n) → (∀ n, n ≠ 9 → A' n = A0 n) → (errT T = -6 → r' 18 = (prsT T).length ∧ r' 19 = (frb (prsT T) (prsT T).length 0).1 ∧ r' 20 = (frb (prsT T) (prsT T).length 0).2) → Q (some (.int (I (errT T)))) h') : Call Model_findError d 0 0 [.ref M] h0 Q := by
  have d1 : 1 ≤ d := by omega
  have tl := ht0.2.2.1
  have frbi : ∀ As : List Stk, As.length ≤ 100 → i32 (frb As As.length 0).1 := by
    intro As hA
    have key : ∀ m i, i + m ≤ 100 → i32 (frb As m i).1 := by
      intro m
      induction m with
      | zero => intro i _; show i32 (-6); omega
      | succ m ih =>
        intro i hi
        unfold frb
        split
        · show i32 (i : Int); omega
        · exact ih (i + 1) (by omega)
    exact key _ _ (by omega)
  have loop : ∀ (m i : Nat) (As : List Stk) (x : Int) (h : g_H) (r : Nat → Int) (A : Nat → Nat → Int), T.length - i < m → As.length ≤ i → chg M (M + 10) h0 h → mdl h M r A → (∀ n, n < 12 → r n = r0 n) → (∀ n, n ≠ 9 → A n = A0 n) → r 15 = i → i ≤ T.length → r 18 = As.length → r 19 = (frb As As.length 0).1 → r 20 = (frb As As.length 0).2 → dfa T (T.length - i) i 0 1 = errT T → prs T (T.length - i) i As [] false x 0 = prsT T → G Model_findError d 0 0 0 0 22 [some (.ref M)] [] h Q := by
    intro m
    induction m with
    | zero => intro i As x h r A hi; omega
    | succ m ih =>
      intro i As x h r A hi hAi hc hm e1 e2 e15 hi2 e18 e19 e20 hd hpr
      have ht := ht0.kp (r' := r) (A' := A) (e1 5 (by omega)) (e2 4 (by omega))
      have fb := frbi As (by omega)
      refine B_Model_findError_22 ?_
      simp only [wp_cons, wp_nil, List.getElem?_cons_zero, List.getElem?_cons_succ, List.set_cons_zero, List.set_cons_succ, s_aload_n0, ldA_r, ldA_n, s_invokevirtual, rc_s, ob_s, List.drop_succ_cons, List.drop_zero, List.take_succ_cons, List.take_zero, List.reverse_cons, List.reverse_nil, List.nil_append, List.cons_append, List.length_cons, List.length_nil, d1, Int.reduceToNat, Nat.reduceAdd, Nat.reduceLeDiff, true_and, and_true, Nat.le_refl, true_implies, forall_const, not_false_eq_true, false_implies, not_true_eq_false, reduceCtorEq, tl_s, tl_n, rf_s, true_or, or_true, hm.c]
      refine Mdl_rs_c (As := As) (x0 := x) (by omega) hm ht e15 hi2 (by omega) (by omega) (by rw [e19]; exact fb) (fun h1 r1 A1 k C x1 n1 s1 c1 m1 f1 f2 f15 fp fP fl flk hk hs hd1 hpr1 hst f19 f20 => ?_) (fun h1 r1 A1 k c1 m1 f1 f2 f15 hk hd1 => ?_)
      · obtain ⟨zb, hz⟩ : ∃ zb : Bool, zb = true ↔ 3 ≤ ((C ++ [1000 * x1 + n1]).length : Int) ∧ k < T.length ∧ pg T k = 122 := ⟨decide _, decide_eq_true_iff⟩
        have ht1 := ht.kp (r' := r1) (A' := A1) (f1 5 (by omega)) (f2 4 (by omega))
        obtain ⟨g1, g2, g3⟩ := dfa_row (As := As) hk hs rfl (by omega) hst hz
        refine B_Model_findError_26 ?_
        simp only [wp_cons, wp_nil, List.getElem?_cons_zero, List.getElem?_cons_succ, List.set_cons_zero, List.set_cons_succ, s_ifCond_ne, p1_s, true_and, and_true, Nat.le_refl, true_implies, forall_const, not_false_eq_true, false_implies, not_true_eq_false, reduceCtorEq, tl_s, tl_n, rf_s, List.cons_append, List.nil_append, true_or, or_true, m1.c]
        refine b_ne (by omega) (by omega) (fun _ => ?_) (fun cc => absurd cc (by omega))
        refine B_Model_findError_34 ?_
        simp only [wp_cons, wp_nil, List.getElem?_cons_zero, List.getElem?_cons_succ, List.set_cons_zero, List.set_cons_succ, s_aload_n0, ldA_r, ldA_n, s_invokevirtual, rc_s, ob_s, List.drop_succ_cons, List.drop_zero, List.take_succ_cons, List.take_zero, List.reverse_cons, List.reverse_nil, List.nil_append, List.cons_append, List.length_cons, List.length_nil, d1, Int.reduceToNat, Nat.reduceAdd, Nat.reduceLeDiff, true_and, and_true, Nat.le_refl, true_implies, forall_const, not_false_eq_true, false_implies, not_true_eq_false, reduceCtorEq, tl_s, tl_n, rf_s, true_or, or_true, m1.c]
        refine Mdl_rc_c (by omega) m1 ht1 f15 hk fp fP fl (by rw [f19, e19]; exact mkb_i fb (by omega)) hz (fun h2 r2 c2 m2 k1 k15 k19 k20 => ?_)
        have bp : (r1 19, r1 20) = mkb (frb As As.length 0) As.length (rpt (C ++ [1000 * x1 + n1]) ((C ++ [1000 * x1 + n1]).length - 1) 1) := by
          rw [f19, f20, e19, e20, e18]
        rw [bp, f1 18 (by omega), e18, mkb_rep (by omega), ← frb_add] at k19 k20
        have k18 : r2 18 = (As.length : Int) := by rw [k1 18 (by omega), f1 18 (by omega), e18]
        have kl : r2 5 = (T.length : Int) := by rw [k1 5 (by omega), f1 5 (by omega), e1 5 (by omega)]; exact ht0.1
        have m3 := m2.f18 (r2 18 + 1)
        have n15 : ui r2 18 (r2 18 + 1) 15 = ((k + (if zb = true then 1 else 0) : Nat) : Int) := by rw [ui_n _ _ (by omega), k15]
        have n5 : ui r2 18 (r2 18 + 1) 5 = (T.length : Int) := by rw [ui_n _ _ (by omega), kl]
        have ht3 : txm (ui r2 18 (r2 18 + 1)) A1 T := ⟨n5, ht1.2.1, ht1.2.2⟩
        have fr : ∀ n, n < 12 → ui r2 18 (r2 18 + 1) n = r0 n := fun n hn => by rw [ui_n _ _ (by omega), k1 n (by omega), f1 n (by omega), e1 n hn]
        have frA : ∀ n, n ≠ 9 → A1 n = A0 n := fun n hn => by rw [f2 n hn, e2 n hn]
        have cAll := ((hc.tr c1).tr c2).tr (chg.set (.inr (.inr (7, [.ref (M + 1), .ref (M + 2), .ref (M + 3), .int (I (r2 3)), .ref (M + 4), .int (I (r2 5)), .ref (M + 5), .ref (M + 6), .ref (M + 7), .ref (M + 8), .int (I (r2 10)), .ref (M + 9), .int (I (r2 12)), .int (I (r2 13)), .int (I (r2 14)), .int (I (r2 15)), .int (I (r2 16)), .int (I (r2 17)), .int (I (r2 18 + 1)), .int (I (r2 19)), .int (I (r2 20))]))) (show M ≤ M ∧ M < M + 10 by omega))
        have hk' : k + (if zb = true then 1 else 0) ≤ T.length := by
          by_cases z : zb = true
          · have := (hz.mp z).2.1
            rw [if_pos z]; omega
          · rw [if_neg z]; omega
        refine B_Model_findError_38 ?_
        simp only [wp_cons, wp_nil, List.getElem?_cons_zero, List.getElem?_cons_succ, List.set_cons_zero, List.set_cons_succ, s_pop, p1v_i, p1v_r, s_aload_n0, ldA_r, ldA_n, s_dup, s_getfield, pR_s, ob_s, gt_s, s_iconst, s_iadd, p2_s, I_add, s_putfield, pv_i, pv_z, pv_r, pv_f, z_01, z_11, List.length_cons, List.length_nil, s_if_icmp_ne, true_and, and_true, Nat.le_refl, true_implies, forall_const, not_false_eq_true, false_implies, not_true_eq_false, reduceCtorEq, tl_s, tl_n, rf_s, List.cons_append, List.nil_append, true_or, or_true, m2.c, m3.c, n15, n5, Nat.reduceLT, Nat.reduceAdd]
        refine b_ne (by omega) (by omega) (fun c5 => ?_) (fun c5 => ?_)
        · refine B_Model_findError_63 ?_
          simp only [wp_cons, wp_nil, List.getElem?_cons_zero, List.getElem?_cons_succ, List.set_cons_zero, List.set_cons_succ, s_aload_n0, ldA_r, ldA_n, s_bipush, s_invokevirtual, rc_s, ob_s, List.drop_succ_cons, List.drop_zero, List.take_succ_cons, List.take_zero, List.reverse_cons, List.reverse_nil, List.nil_append, List.cons_append, List.length_cons, List.length_nil, d1, Int.reduceToNat, Nat.reduceAdd, Nat.reduceLeDiff, true_and, and_true, Nat.le_refl, true_implies, forall_const, not_false_eq_true, false_implies, not_true_eq_false, reduceCtorEq, tl_s, tl_n, rf_s, true_or, or_true, m2.c, m3.c, n15, n5, Nat.reduceLT]
          refine Mdl_nx_c (by omega) m3 ht3 n15 (by omega) (by omega) (fun q h4 r4 c4 m4 j1 j15 => ?_) (fun q h4 r4 c4 m4 j1 j15 => ?_)
          · obtain ⟨u1, u2⟩ := g2 q.1 q.2
            refine B_Model_findError_69 ?_
            simp only [wp_cons, wp_nil, List.getElem?_cons_zero, List.getElem?_cons_succ, List.set_cons_zero, List.set_cons_succ, s_ifCond_ne, p1_s, true_and, and_true, Nat.le_refl, true_implies, forall_const, not_false_eq_true, false_implies, not_true_eq_false, reduceCtorEq, tl_s, tl_n, rf_s, List.cons_append, List.nil_append, true_or, or_true, m2.c, m3.c, n15, n5, Nat.reduceLT, Nat.reduceAdd]
            refine b_ne (by omega) (by omega) (fun _ => ?_) (fun cc => absurd cc (by omega))
            refine ih (k + (if zb = true then 1 else 0) + 1) (As ++ [(C ++ [1000 * x1 + n1], zb)]) x1 h4 r4 A1 (by omega) (by rw [List.length_append]; show As.length + 1 ≤ _; omega) (cAll.tr c4) m4 (fun n hn => by rw [j1 n (by omega), fr n hn]) frA j15 (by omega) ?_ ?_ ?_ ?_ ?_
            · rw [j1 18 (by omega), ui_s, k18, List.length_append]; rfl
            · rw [j1 19 (by omega), ui_n _ _ (by omega), k19]
            · rw [j1 20 (by omega), ui_n _ _ (by omega), k20]
            · rw [← u1, ← hd1, hd]
            · rw [← u2, ← hpr1, hpr]
          · have u := g3 (by omega) (fun q2 => q ⟨by omega, q2⟩)
            have ev : errT T = ((k + (if zb = true then 1 else 0) : Nat) : Int) := by rw [← hd, hd1, u]
            rw [ev] at hQ
            refine B_Model_findError_69 ?_
            simp only [wp_cons, wp_nil, List.getElem?_cons_zero, List.getElem?_cons_succ, List.set_cons_zero, List.set_cons_succ, s_ifCond_ne, p1_s, true_and, and_true, Nat.le_refl, true_implies, forall_const, not_false_eq_true, false_implies, not_true_eq_false, reduceCtorEq, tl_s, tl_n, rf_s, List.cons_append, List.nil_append, true_or, or_true, m4.c, j15]
            refine B_Model_findError_72 ?_
            simp only [wp_cons, wp_nil, List.getElem?_cons_zero, List.getElem?_cons_succ, List.set_cons_zero, List.set_cons_succ, s_aload_n0, ldA_r, ldA_n, s_getfield, pR_s, ob_s, gt_s, s_ireturn, p1_s, rI_i, rI_z, rI_c, z_01, z_11, rt_Model_findError, true_and, and_true, Nat.le_refl, true_implies, forall_const, not_false_eq_true, false_implies, not_true_eq_false, reduceCtorEq, tl_s, tl_n, rf_s, List.cons_append, List.nil_append, true_or, or_true, m4.c, j15]
            exact hQ h4 r4 A1 (cAll.tr c4) m4 (fun n hn => by rw [j1 n (by omega), fr n hn]) frA (fun q2 => absurd q2 (by omega))
        · obtain ⟨u1, u2⟩ := g1 (by omega)
          have ev : errT T = -6 := by rw [← hd, hd1, u1]
          have pv : prsT T = As ++ [(C ++ [1000 * x1 + n1], zb)] := by rw [← hpr, hpr1, u2]
          rw [ev, pv] at hQ
          refine B_Model_findError_60 ?_
          simp only [wp_cons, wp_nil, List.getElem?_cons_zero, List.getElem?_cons_succ, List.set_cons_zero, List.set_cons_succ, s_bipush, s_ireturn, p1_s, rI_i, rI_z, rI_c, z_01, z_11, rt_Model_findError, true_and, and_true, Nat.le_refl, true_implies, forall_const, not_false_eq_true, false_implies, not_true_eq_false, reduceCtorEq, tl_s, tl_n, rf_s, List.cons_append, List.nil_append, true_or, or_true, m2.c, m3.c, n15, n5, Nat.reduceLT, Nat.reduceAdd]
          refine hQ _ _ A1 cAll m3 fr frA (fun _ => ⟨?_, ?_, ?_⟩)
          · rw [ui_s, k18, List.length_append]; rfl
          · rw [ui_n _ _ (by omega), k19]
          · rw [ui_n _ _ (by omega), k20]
      · have ev : errT T = k := by rw [← hd, hd1]
        rw [ev] at hQ
        refine B_Model_findError_26 ?_
        simp only [wp_cons, wp_nil, List.getElem?_cons_zero, List.getElem?_cons_succ, List.set_cons_zero, List.set_cons_succ, s_ifCond_ne, p1_s, true_and, and_true, Nat.le_refl, true_implies, forall_const, not_false_eq_true, false_implies, not_true_eq_false, reduceCtorEq, tl_s, tl_n, rf_s, List.cons_append, List.nil_append, true_or, or_true, m1.c, f15]
        refine B_Model_findError_29 ?_
        simp only [wp_cons, wp_nil, List.getElem?_cons_zero, List.getElem?_cons_succ, List.set_cons_zero, List.set_cons_succ, s_aload_n0, ldA_r, ldA_n, s_getfield, pR_s, ob_s, gt_s, s_ireturn, p1_s, rI_i, rI_z, rI_c, z_01, z_11, rt_Model_findError, true_and, and_true, Nat.le_refl, true_implies, forall_const, not_false_eq_true, false_implies, not_true_eq_false, reduceCtorEq, tl_s, tl_n, rf_s, List.cons_append, List.nil_append, true_or, or_true, m1.c, f15]
        exact hQ h1 r1 A1 (hc.tr c1) m1 (fun n hn => by rw [f1 n (by omega), e1 n hn]) (fun n hn => by rw [f2 n hn, e2 n hn]) (fun q2 => absurd q2 (by omega))
  have m1 := hm0.f15 0
  have m2 := m1.f18 0
  have m3 := m2.f19 (-6)
  have m4 := m3.f20 (-6)
  refine Call.intro (by rfl) (Nat.le_of_ble_eq_true rfl) ?_
  refine G.eqL (L := [some (.ref _)]) rfl ?_
  refine B_Model_findError_0 ?_
  simp only [wp_cons, wp_nil, List.getElem?_cons_zero, List.getElem?_cons_succ, List.set_cons_zero, List.set_cons_succ, s_aload_n0, ldA_r, ldA_n, s_iconst, s_putfield, pv_i, pv_z, pv_r, pv_f, ob_s, z_01, z_11, List.length_cons, List.length_nil, s_bipush, true_and, and_true, Nat.le_refl, true_implies, forall_const, not_false_eq_true, false_implies, not_true_eq_false, reduceCtorEq, tl_s, tl_n, rf_s, List.cons_append, List.nil_append, true_or, or_true, hm0.c, m1.c, m2.c, m3.c, Nat.reduceLT, Nat.reduceAdd]
  refine loop (T.length + 1) 0 [] 0 _ _ A0 (by omega) (Nat.le_refl _) ((((chg.set _ (by omega)).tr (chg.set _ (by omega))).tr (chg.set _ (by omega))).tr (chg.set _ (by omega))) m4 (fun n hn => by rw [ui_n _ _ (by omega), ui_n _ _ (by omega), ui_n _ _ (by omega), ui_n _ _ (by omega)]) (fun n _ => rfl) ?_ (by omega) ?_ ?_ ?_ rfl rfl
  · rw [ui_n _ _ (by omega), ui_n _ _ (by omega), ui_n _ _ (by omega), ui_s]; rfl
  · rw [ui_n _ _ (by omega), ui_n _ _ (by omega), ui_s]; rfl
  · rw [ui_n _ _ (by omega), ui_s]; rfl
  · rw [ui_s]; rfl
theorem mst.t {r : Nat → Int} {A : Nat → Nat → Int} {s : Sta} {Hs : List Sta} {T : List Int} {l : Int × Int × Int} (q : mst r A (s, Hs, T, l)) (w : wfT T) : txm r A T := ⟨q.2.2.2.1, q.2.2.2.2.1, w⟩
theorem mst.k9 {r r' : Nat → Int} {A A' : Nat → Nat → Int} {W : Wd} (q : mst r A W) (h3 : ∀ n, n < 12 → r' n = r n) (hA : ∀ n, n ≠ 9 → A' n = A n) : mst r' A' W := by
  obtain ⟨q1, q2, q3, q4, q5, q6, q7, q8⟩ := q
  refine ⟨?_, (h3 3 (by omega)).trans q2, ?_, (h3 5 (by omega)).trans q4, ?_, ?_, ?_, ?_⟩
  · rw [hA 1 (by omega)]; exact q1
  · rw [hA 3 (by omega)]; exact q3
  · rw [hA 4 (by omega)]; exact q5
  · rw [hA 5 (by omega)]; exact q6
  · rw [hA 5 (by omega)]; exact q7
  · rw [hA 5 (by omega)]; exact q8
theorem Mdl_syn_c {d M : Nat} (hd : 9 ≤ d) {W : Wd} {h : g_H} {Q : g_Po} (w : wfW W) (hp : mrep h M W) (hQ : MQ9 M h Q (sp_syn W)) : Call Model_syntaxError d 0 0 [.ref M] h Q := by
  have d1 : 1 ≤ d := by omega
  obtain ⟨⟨Ss, pn⟩, Hs, T, l⟩ := W
  obtain ⟨r, A, hm, ht⟩ := id hp
  unfold sp_syn at hQ
  dsimp only at hQ
  refine Call.intro (by rfl) (Nat.le_of_ble_eq_true rfl) ?_
  refine G.eqL (L := [some (.ref _)]) rfl ?_
  refine B_Model_syntaxError_0 ?_
  simp only [wp_cons, wp_nil, List.getElem?_cons_zero, List.getElem?_cons_succ, List.set_cons_zero, List.set_cons_succ, s_aload_n0, ldA_r, ldA_n, s_invokevirtual, rc_s, ob_s, List.drop_succ_cons, List.drop_zero, List.take_succ_cons, List.take_zero, List.reverse_cons, List.reverse_nil, List.nil_append, List.cons_append, List.length_cons, List.length_nil, d1, Int.reduceToNat, Nat.reduceAdd, Nat.reduceLeDiff, true_and, and_true, Nat.le_refl, true_implies, forall_const, not_false_eq_true, false_implies, not_true_eq_false, reduceCtorEq, tl_s, tl_n, rf_s, true_or, or_true, hm.c]
  refine Mdl_fe_c (by omega) hm (ht.t w.g.2.2.2.2) (fun h1 r1 A1 c1 m1 e1 e2 _ => ?_)
  refine B_Model_syntaxError_4 ?_
  simp only [wp_cons, wp_nil, List.getElem?_cons_zero, List.getElem?_cons_succ, List.set_cons_zero, List.set_cons_succ, s_ireturn, p1_s, rI_i, rI_z, rI_c, z_01, z_11, rt_Model_syntaxError, true_and, and_true, Nat.le_refl, true_implies, forall_const, not_false_eq_true, false_implies, not_true_eq_false, reduceCtorEq, tl_s, tl_n, rf_s, List.cons_append, List.nil_append, true_or, or_true, hm.c]
  exact hQ h1 c1 ⟨_, _, m1, ht.k9 e1 e2⟩
theorem Mdl_fails_c {d M : Nat} {u v x : Int} {r : Nat → Int} {A : Nat → Nat → Int} {h : g_H} {Q : g_Po} (hm : mdl h M r A) (hQ : ∀ h', chg M (M + 10) h h' → mdl h' M r (ua (ua (ua A 5 0 u) 5 1 v) 5 2 x) → Q (some (.int (I u))) h') : Call Model_fails d 0 0 [.ref M, .int (I u), .int (I v), .int (I x)] h Q := by
  have m1 := hm.a5 0 u
  have m2 := m1.a5 1 v
  have m3 := m2.a5 2 x
  refine Call.intro (by rfl) (Nat.le_of_ble_eq_true rfl) ?_
  refine G.eqL (L := [some (.ref _), some (.int _), some (.int _), some (.int _)]) rfl ?_
  refine B_Model_fails_0 ?_
  simp only [wp_cons, wp_nil, List.getElem?_cons_zero, List.getElem?_cons_succ, List.set_cons_zero, List.set_cons_succ, s_aload_n0, ldA_r, ldA_n, s_getfield, pR_s, ob_s, gt_s, s_iconst, s_iload_n1, ldI_s, s_iastore, iiR_s, ia_s, s_iload_n2, s_iload_n3, s_ireturn, p1_s, rI_i, rI_z, rI_c, z_01, z_11, rt_Model_fails, true_and, and_true, Nat.le_refl, true_implies, forall_const, not_false_eq_true, false_implies, not_true_eq_false, reduceCtorEq, tl_s, tl_n, rf_s, List.cons_append, List.nil_append, true_or, or_true, hm.c, hm.g5, m1.c, m1.g5, m2.c, m2.g5, upd_ui, ex_ie (x := 0) (i := 0) (n := 3) rfl (by omega), ex_ie (x := 1) (i := 1) (n := 3) rfl (by omega), ex_ie (x := 2) (i := 2) (n := 3) rfl (by omega)]
  exact hQ _ (((chg.set _ (by omega)).tr (chg.set _ (by omega))).tr (chg.set _ (by omega))) m3
