/-! ===== the reference: reading strokes ===== -/
theorem Mdl_mk_c {d M : Nat} {v : Int} {r : Nat → Int} {A : Nat → Nat → Int} {h : g_H} {Q : g_Po} (hm : mdl h M r A) (hv : v ≠ -6) (h19 : i32 (r 19))
    (hQ : ∀ h' r', chg M (M + 10) h h' → mdl h' M r' A → (∀ n, n < 19 → r' n = r n) → r' 19 = (mkb (r 19, r 20) (r 18) v).1 → r' 20 = (mkb (r 19, r 20) (r 18) v).2 → Q none h') : Call Model_marks d 0 0 [.ref M, .int (I v)] h Q := by
  by_cases c : r 19 = -6
  · have m1 := hm.f19 (r 18)
    have m2 := m1.f20 v
    refine Call.intro (by rfl) (Nat.le_of_ble_eq_true rfl) ?_
    refine G.eqL (L := [some (.ref _), some (.int _)]) rfl ?_
    refine B_Model_marks_0 ?_
    simp only [wp_cons, wp_nil, List.getElem?_cons_zero, List.getElem?_cons_succ, List.set_cons_zero, List.set_cons_succ, s_aload_n0, ldA_r, ldA_n, s_getfield, pR_s, ob_s, gt_s, s_bipush, s_if_icmp_ne, p2_s, true_and, and_true, Nat.le_refl, true_implies, forall_const, not_false_eq_true, false_implies, not_true_eq_false, reduceCtorEq, tl_s, tl_n, rf_s, List.cons_append, List.nil_append, true_or, or_true, hm.c, m1.c, Nat.reduceLT, Nat.reduceAdd]
    refine b_ne (by omega) (by omega) (fun cc => absurd c cc) (fun _ => ?_)
    refine B_Model_marks_9 ?_
    simp only [wp_cons, wp_nil, List.getElem?_cons_zero, List.getElem?_cons_succ, List.set_cons_zero, List.set_cons_succ, s_aload_n0, ldA_r, ldA_n, s_getfield, pR_s, ob_s, gt_s, s_putfield, pv_i, pv_z, pv_r, pv_f, z_01, z_11, List.length_cons, List.length_nil, s_iload_n1, ldI_s, true_and, and_true, Nat.le_refl, true_implies, forall_const, not_false_eq_true, false_implies, not_true_eq_false, reduceCtorEq, tl_s, tl_n, rf_s, List.cons_append, List.nil_append, true_or, or_true, hm.c, m1.c, Nat.reduceLT, Nat.reduceAdd]
    refine B_Model_marks_22 ?_
    simp only [wp_cons, wp_nil, List.getElem?_cons_zero, List.getElem?_cons_succ, List.set_cons_zero, List.set_cons_succ, s_return_, rt_Model_marks, true_and, and_true, Nat.le_refl, true_implies, forall_const, not_false_eq_true, false_implies, not_true_eq_false, reduceCtorEq, tl_s, tl_n, rf_s, List.cons_append, List.nil_append, true_or, or_true, hm.c, m1.c, Nat.reduceLT, Nat.reduceAdd]
    refine hQ _ _ ((chg.set _ (by omega)).tr (chg.set _ (by omega))) m2 (fun n hn => by rw [ui_n _ _ (by omega), ui_n _ _ (by omega)]) ?_ ?_
    · rw [ui_n _ _ (by omega), ui_s, mkb_t c hv]
    · rw [ui_s, mkb_t c hv]
  · refine Call.intro (by rfl) (Nat.le_of_ble_eq_true rfl) ?_
    refine G.eqL (L := [some (.ref _), some (.int _)]) rfl ?_
    refine B_Model_marks_0 ?_
    simp only [wp_cons, wp_nil, List.getElem?_cons_zero, List.getElem?_cons_succ, List.set_cons_zero, List.set_cons_succ, s_aload_n0, ldA_r, ldA_n, s_getfield, pR_s, ob_s, gt_s, s_bipush, s_if_icmp_ne, p2_s, true_and, and_true, Nat.le_refl, true_implies, forall_const, not_false_eq_true, false_implies, not_true_eq_false, reduceCtorEq, tl_s, tl_n, rf_s, List.cons_append, List.nil_append, true_or, or_true, hm.c]
    refine b_ne (by omega) (by omega) (fun _ => ?_) (fun cc => absurd cc c)
    refine B_Model_marks_22 ?_
    simp only [wp_cons, wp_nil, List.getElem?_cons_zero, List.getElem?_cons_succ, List.set_cons_zero, List.set_cons_succ, s_return_, rt_Model_marks, true_and, and_true, Nat.le_refl, true_implies, forall_const, not_false_eq_true, false_implies, not_true_eq_false, reduceCtorEq, tl_s, tl_n, rf_s, List.cons_append, List.nil_append, true_or, or_true, hm.c]
    exact hQ h r chg.rf hm (fun n _ => rfl) (by rw [mkb_f c]) (by rw [mkb_f c])
theorem Mdl_rs_c {d M i : Nat} {T : List Int} {As : List Stk} {x0 : Int} {r0 : Nat → Int} {A0 : Nat → Nat → Int} {h0 : g_H} {Q : g_Po} (d3 : 3 ≤ d) (hm0 : mdl h0 M r0 A0) (ht0 : txm r0 A0 T) (hi : r0 15 = i) (hi2 : i ≤ T.length) (h18 : i32 (r0 18)) (h186 : r0 18 ≠ -6) (h19 : i32 (r0 19))
    (hT : ∀ h' r' A' (k : Nat) (C : List Int) (x n s : Int), chg M (M + 10) h0 h' → mdl h' M r' A' → (∀ n, n < 12 ∨ n = 18 → r' n = r0 n) → (∀ n, n ≠ 9 → A' n = A0 n) → r' 15 = k → pts r' A' (C ++ [1000 * x + n]) → stP (C ++ [1000 * x + n]) → 2 ≤ (C ++ [1000 * x + n]).length → i + 4 * (C ++ [1000 * x + n]).length ≤ k + 1 → k ≤ T.length → (5 ≤ s ∧ s ≤ 7) → dfa T (T.length - i) i 0 1 = dfa T (T.length - k) k s ((C ++ [1000 * x + n]).length : Int) → prs T (T.length - i) i As [] false x0 0 = prs T (T.length - k) k As C false x n → (k = T.length ∨ (pg T k ≠ 45 ∧ (s < 7 → ¬ dgt (pg T k)))) → r' 19 = (mkb (r0 19, r0 20) (r0 18) (rpt (C ++ [1000 * x + n]) ((C ++ [1000 * x + n]).length - 1) 1)).1 → r' 20 = (mkb (r0 19, r0 20) (r0 18) (rpt (C ++ [1000 * x + n]) ((C ++ [1000 * x + n]).length - 1) 1)).2 → Q (some (.int (I 1))) h')
    (hF : ∀ h' r' A' (k : Nat), chg M (M + 10) h0 h' → mdl h' M r' A' → (∀ n, n < 12 ∨ n = 18 → r' n = r0 n) → (∀ n, n ≠ 9 → A' n = A0 n) → r' 15 = k → k ≤ T.length → dfa T (T.length - i) i 0 1 = k → Q (some (.int (I 0))) h') : Call Model_readsStroke d 0 0 [.ref M] h0 Q := by
  have d1 : 1 ≤ d := by omega
  have tl := ht0.2.2.1
  have loop : ∀ (m k : Nat) (C : List Int) (x : Int) (h : g_H) (r : Nat → Int) (A : Nat → Nat → Int), T.length - k < m → chg M (M + 10) h0 h → mdl h M r A → (∀ n, n < 12 ∨ n = 18 → r n = r0 n) → (∀ n, n ≠ 9 → A n = A0 n) → r 15 = k → pts r A C → stP C → i + 4 * C.length ≤ k → k ≤ T.length → dfa T (T.length - i) i 0 1 = dfa T (T.length - k) k 0 ((C.length : Int) + 1) → prs T (T.length - i) i As [] false x0 0 = prs T (T.length - k) k As C false x 0 → r 19 = (mkb (r0 19, r0 20) (r0 18) (rpt C (C.length - 1) 1)).1 → r 20 = (mkb (r0 19, r0 20) (r0 18) (rpt C (C.length - 1) 1)).2 → G Model_readsStroke d 0 0 0 0 7 [some (.ref M), some (.int (I 1))] [] h Q := by
    intro m
    induction m with
    | zero => intro k C x h r A hk; omega
    | succ m ih =>
      intro k C x h r A hk hc hm e1 e2 e15 hp hP hl hk2 hd hpr hb1 hb2
      have ht := ht0.kp (r' := r) (A' := A) (e1 5 (by omega)) (e2 4 (by omega))
      refine B_Model_readsStroke_7 ?_
      simp only [wp_cons, wp_nil, List.getElem?_cons_zero, List.getElem?_cons_succ, List.set_cons_zero, List.set_cons_succ, s_iload_n1, ldI_s, s_ifCond_eq, p1_s, true_and, and_true, Nat.le_refl, true_implies, forall_const, not_false_eq_true, false_implies, not_true_eq_false, reduceCtorEq, tl_s, tl_n, rf_s, List.cons_append, List.nil_append, true_or, or_true, hm.c]
      refine b_eq (by omega) (by omega) (fun cc => absurd cc (by omega)) (fun _ => ?_)
      refine B_Model_readsStroke_11 ?_
      simp only [wp_cons, wp_nil, List.getElem?_cons_zero, List.getElem?_cons_succ, List.set_cons_zero, List.set_cons_succ, s_aload_n0, ldA_r, ldA_n, s_invokevirtual, rc_s, ob_s, List.drop_succ_cons, List.drop_zero, List.take_succ_cons, List.take_zero, List.reverse_cons, List.reverse_nil, List.nil_append, List.cons_append, List.length_cons, List.length_nil, d1, Int.reduceToNat, Nat.reduceAdd, Nat.reduceLeDiff, true_and, and_true, Nat.le_refl, true_implies, forall_const, not_false_eq_true, false_implies, not_true_eq_false, reduceCtorEq, tl_s, tl_n, rf_s, true_or, or_true, hm.c]
      refine Mdl_rp_c (by omega) hm ht e15 hk2 (fun h1 r1 k1 x1 n1 s1 c1 m1 f1 f15 f16 hx hn hk3 hk4 hs hd1 hpr1 hst => ?_) (fun h1 r1 k1 c1 m1 f1 f15 hk4 hd1 => ?_)
      · obtain ⟨p1, p2, p3⟩ := hp
        have ht1 := ht.kp (r' := r1) (A' := A) (f1 5 (by omega)) rfl
        have q12 : r1 12 = (C.length : Int) := by rw [f1 12 (by omega)]; exact p1
        have hpt : pt (1000 * x1 + n1) := by omega
        have hl2 : (C ++ [1000 * x1 + n1]).length = C.length + 1 := by simp
        have hP2 : stP (C ++ [1000 * x1 + n1]) := stP_app hP (stP_one hpt)
        have c01 := hc.tr c1
        have rest : ∀ (h2 : g_H) (r2 : Nat → Int), chg M (M + 10) h0 h2 → mdl h2 M r2 (ua A 9 C.length (1000 * x1 + n1)) → (∀ n, n < 19 → r2 n = r1 n) → r2 19 = (mkb (r0 19, r0 20) (r0 18) (rpt (C ++ [1000 * x1 + n1]) ((C ++ [1000 * x1 + n1]).length - 1) 1)).1 → r2 20 = (mkb (r0 19, r0 20) (r0 18) (rpt (C ++ [1000 * x1 + n1]) ((C ++ [1000 * x1 + n1]).length - 1) 1)).2 → G Model_readsStroke d 0 0 0 0 66 [some (.ref M), some (.int (I 1))] [] h2 Q := by
          intro h2 r2 c2 m2 g1 g19 g20
          have m3 := m2.f12 ((C.length : Int) + 1)
          have k12 : r2 12 = (C.length : Int) := by rw [g1 12 (by omega), q12]
          have hp3 : pts (ui r2 12 ((C.length : Int) + 1)) (ua A 9 C.length (1000 * x1 + n1)) (C ++ [1000 * x1 + n1]) := by
            refine ⟨by rw [ui_s, hl2]; rfl, by omega, fun j hj => ?_⟩
            rw [ua_s]
            by_cases e : j = C.length
            · rw [e, ui_s, pg_app_r _ _ (Nat.le_refl _), Nat.sub_self]; rfl
            · rw [ui_n _ _ e, pg_app_l _ _ (by omega), p3 j (by omega)]
          have ht3 : txm (ui r2 12 ((C.length : Int) + 1)) (ua A 9 C.length (1000 * x1 + n1)) T := ht1.kp (by rw [ui_n _ _ (by omega), g1 5 (by omega)]) (ua_n _ _ _ (by omega))
          have fr : ∀ r4 : Nat → Int, (∀ n, n ≠ 15 → r4 n = ui r2 12 ((C.length : Int) + 1) n) → ∀ n, n < 12 ∨ n = 18 → r4 n = r0 n := fun r4 z n hn => by rw [z n (by omega), ui_n _ _ (by omega), g1 n (by omega), f1 n (by omega), e1 n hn]
          have frA : ∀ n, n ≠ 9 → ua A 9 C.length (1000 * x1 + n1) n = A0 n := fun n hn => by rw [ua_n _ _ _ hn, e2 n hn]
          refine B_Model_readsStroke_66 ?_
          simp only [wp_cons, wp_nil, List.getElem?_cons_zero, List.getElem?_cons_succ, List.set_cons_zero, List.set_cons_succ, s_aload_n0, ldA_r, ldA_n, s_dup, p1v_i, p1v_r, s_getfield, pR_s, ob_s, gt_s, s_iconst, s_iadd, p2_s, I_add, s_putfield, pv_i, pv_z, pv_r, pv_f, z_01, z_11, List.length_cons, List.length_nil, s_bipush, s_invokevirtual, rc_s, List.drop_succ_cons, List.drop_zero, List.take_succ_cons, List.take_zero, List.reverse_cons, List.reverse_nil, List.nil_append, List.cons_append, d1, Int.reduceToNat, Nat.reduceAdd, Nat.reduceLeDiff, true_and, and_true, Nat.le_refl, true_implies, forall_const, not_false_eq_true, false_implies, not_true_eq_false, reduceCtorEq, tl_s, tl_n, rf_s, true_or, or_true, m2.c, k12, m3.c, Nat.reduceLT]
          refine Mdl_nx_c (by omega) m3 ht3 (i := k1) (by rw [ui_n _ _ (by omega), g1 15 (by omega), f15]) (by omega) (by omega) (fun q h4 r4 c4 m4 g4 g15 => ?_) (fun q h4 r4 c4 m4 g4 g15 => ?_)
          · refine B_Model_readsStroke_82 ?_
            simp only [wp_cons, wp_nil, List.getElem?_cons_zero, List.getElem?_cons_succ, List.set_cons_zero, List.set_cons_succ, s_istore_n1, p1_s, s1_0, s1_s, kx_i, kx_r, kx_n, kx_l, kx_0, s_iload_n1, ldI_s, s_ifCond_ne, true_and, and_true, Nat.le_refl, true_implies, forall_const, not_false_eq_true, false_implies, not_true_eq_false, reduceCtorEq, tl_s, tl_n, rf_s, List.cons_append, List.nil_append, true_or, or_true, m4.c]
            have e6 : nst s1 (pg T k1) ((C.length : Int) + 1) = 0 := by
              unfold nst
              rw [q.2, if_neg (by omega), if_neg (by omega), if_neg (by omega), if_neg (by omega), if_neg (by omega), if_pos rfl]
            have e7 : npt (pg T k1) ((C.length : Int) + 1) = (C.length : Int) + 1 + 1 := by unfold npt; rw [if_pos q.2]
            refine b_ne (by omega) (by omega) (fun _ => ?_) (fun cc => absurd cc (by omega))
            refine ih (k1 + 1) (C ++ [1000 * x1 + n1]) x1 h4 r4 _ (by omega) ((c2.tr (chg.set _ (by omega))).tr c4) m4 (fr r4 g4) frA g15 ⟨by rw [g4 12 (by omega)]; exact hp3.1, hp3.2.1, hp3.2.2⟩ hP2 (by omega) (by omega) ?_ ?_ ?_ ?_
            · rw [hd, hd1, dfa_go q.1 (by rw [e6]; omega), e6, e7, hl2]; rfl
            · rw [hpr, hpr1, prs_go q.1, if_neg (by omega), if_neg (by omega), if_neg (by omega), if_neg (by decide), if_neg (by decide), q.2]; rfl
            · rw [g4 19 (by omega), ui_n _ _ (by omega), g19]
            · rw [g4 20 (by omega), ui_n _ _ (by omega), g20]
          · have k412 : r4 12 = (C.length : Int) + 1 := by rw [g4 12 (by omega), ui_s]
            have stop2 : k1 = T.length ∨ (pg T k1 ≠ 45 ∧ (s1 < 7 → ¬ dgt (pg T k1))) := by
              by_cases e : k1 = T.length
              · exact Or.inl e
              · exact Or.inr ⟨fun q2 => q ⟨by omega, q2⟩, fun q2 => (hst q2).resolve_left e⟩
            have c04 := (c2.tr (chg.set _ (by omega))).tr c4
            refine B_Model_readsStroke_82 ?_
            simp only [wp_cons, wp_nil, List.getElem?_cons_zero, List.getElem?_cons_succ, List.set_cons_zero, List.set_cons_succ, s_istore_n1, p1_s, s1_0, s1_s, kx_i, kx_r, kx_n, kx_l, kx_0, s_iload_n1, ldI_s, s_ifCond_ne, true_and, and_true, Nat.le_refl, true_implies, forall_const, not_false_eq_true, false_implies, not_true_eq_false, reduceCtorEq, tl_s, tl_n, rf_s, List.cons_append, List.nil_append, true_or, or_true, m4.c, k412]
            refine B_Model_readsStroke_87 ?_
            simp only [wp_cons, wp_nil, List.getElem?_cons_zero, List.getElem?_cons_succ, List.set_cons_zero, List.set_cons_succ, s_aload_n0, ldA_r, ldA_n, s_getfield, pR_s, ob_s, gt_s, s_iconst, s_if_icmp_ge, p2_s, true_and, and_true, Nat.le_refl, true_implies, forall_const, not_false_eq_true, false_implies, not_true_eq_false, reduceCtorEq, tl_s, tl_n, rf_s, List.cons_append, List.nil_append, true_or, or_true, m4.c, k412]
            refine b_le (by omega) (by omega) (fun cc => ?_) (fun cc => ?_)
            · refine B_Model_readsStroke_7 ?_
              simp only [wp_cons, wp_nil, List.getElem?_cons_zero, List.getElem?_cons_succ, List.set_cons_zero, List.set_cons_succ, s_iload_n1, ldI_s, s_ifCond_eq, p1_s, true_and, and_true, Nat.le_refl, true_implies, forall_const, not_false_eq_true, false_implies, not_true_eq_false, reduceCtorEq, tl_s, tl_n, rf_s, List.cons_append, List.nil_append, true_or, or_true, m4.c, k412]
              refine B_Model_readsStroke_97 ?_
              simp only [wp_cons, wp_nil, List.getElem?_cons_zero, List.getElem?_cons_succ, List.set_cons_zero, List.set_cons_succ, s_iconst, s_ireturn, p1_s, rI_i, rI_z, rI_c, z_01, z_11, rt_Model_readsStroke, true_and, and_true, Nat.le_refl, true_implies, forall_const, not_false_eq_true, false_implies, not_true_eq_false, reduceCtorEq, tl_s, tl_n, rf_s, List.cons_append, List.nil_append, true_or, or_true, m4.c, k412]
              refine hT h4 r4 _ k1 C x1 n1 s1 c04 m4 (fr r4 g4) frA g15 ⟨by rw [g4 12 (by omega)]; exact hp3.1, hp3.2.1, hp3.2.2⟩ hP2 (by omega) (by omega) hk4 hs ?_ ?_ stop2 ?_ ?_
              · rw [hd, hd1, hl2]; rfl
              · rw [hpr, hpr1]
              · rw [g4 19 (by omega), ui_n _ _ (by omega), g19]
              · rw [g4 20 (by omega), ui_n _ _ (by omega), g20]
            · refine B_Model_readsStroke_95 ?_
              simp only [wp_cons, wp_nil, List.getElem?_cons_zero, List.getElem?_cons_succ, List.set_cons_zero, List.set_cons_succ, s_iconst, s_ireturn, p1_s, rI_i, rI_z, rI_c, z_01, z_11, rt_Model_readsStroke, true_and, and_true, Nat.le_refl, true_implies, forall_const, not_false_eq_true, false_implies, not_true_eq_false, reduceCtorEq, tl_s, tl_n, rf_s, List.cons_append, List.nil_append, true_or, or_true, m4.c, k412]
              refine hF h4 r4 _ k1 c04 m4 (fr r4 g4) frA g15 hk4 ?_
              rw [hd, hd1, show (C.length : Int) + 1 = 1 by omega]
              refine dfa_stop hk4 (fun _ => by omega) (fun q3 => ?_)
              have q4 := stop2.resolve_left (by omega)
              unfold nst
              by_cases c5 : 48 ≤ pg T k1 ∧ pg T k1 ≤ 57
              · have : ¬ s1 < 7 := fun q5 => q4.2 q5 c5
                rw [if_pos c5, if_pos (by omega)]
              · rw [if_neg c5]
                by_cases c6 : pg T k1 = 44
                · rw [if_pos c6, if_neg (by omega)]
                · rw [if_neg c6, if_neg (by omega)]
                  by_cases c7 : pg T k1 = 59
                  · rw [if_pos c7, if_neg (by omega)]
                  · rw [if_neg c7, if_neg (by omega), if_neg q4.1, if_neg (by omega)]
        have m9 := m1.a9 C.length (1000 * x1 + n1)
        have b19 : r1 19 = (mkb (r0 19, r0 20) (r0 18) (rpt C (C.length - 1) 1)).1 := by rw [f1 19 (by omega), hb1]
        have b20 : r1 20 = (mkb (r0 19, r0 20) (r0 18) (rpt C (C.length - 1) 1)).2 := by rw [f1 20 (by omega), hb2]
        have b18 : r1 18 = r0 18 := by rw [f1 18 (by omega), e1 18 (by omega)]
        have hpr2 := rpt_add (C := C) (p := 1000 * x1 + n1)
        have c9 : ∀ v, chg M (M + 10) h0 (h1.set (M + 9) v) := fun v => c01.tr (chg.set _ (by omega))
        have z9 : ∀ j, ua A 9 C.length (1000 * x1 + n1) 9 j = if j = C.length then 1000 * x1 + n1 else A 9 j := fun j => by rw [ua_s]; rfl
        have bpair : (r1 19, r1 20) = mkb (r0 19, r0 20) (r0 18) (rpt C (C.length - 1) 1) := Prod.ext b19 b20
        have same : rpt (C ++ [1000 * x1 + n1]) ((C ++ [1000 * x1 + n1]).length - 1) 1 = rpt C (C.length - 1) 1 → G Model_readsStroke d 0 0 0 0 66 [some (.ref M), some (.int (I 1))] [] (h1.set (M + 9) (.inl (0, 64, fun i => I (ui (A 9) C.length (1000 * x1 + n1) i)))) Q := fun z => rest _ r1 (c9 _) m9 (fun n _ => rfl) (by rw [z, b19]) (by rw [z, b20])
        refine B_Model_readsStroke_15 ?_
        simp only [wp_cons, wp_nil, List.getElem?_cons_zero, List.getElem?_cons_succ, List.set_cons_zero, List.set_cons_succ, s_ifCond_ne, p1_s, true_and, and_true, Nat.le_refl, true_implies, forall_const, not_false_eq_true, false_implies, not_true_eq_false, reduceCtorEq, tl_s, tl_n, rf_s, List.cons_append, List.nil_append, true_or, or_true, m1.c, m1.g9, m9.c, q12, f16, upd_ui, ex_ix (i := C.length) (n := 64) (by omega), ex_iy (i := C.length) (n := 64) (by omega)]
        refine b_ne (by omega) (by omega) (fun _ => ?_) (fun cc => absurd cc (by omega))
        refine B_Model_readsStroke_20 ?_
        simp only [wp_cons, wp_nil, List.getElem?_cons_zero, List.getElem?_cons_succ, List.set_cons_zero, List.set_cons_succ, s_aload_n0, ldA_r, ldA_n, s_getfield, pR_s, ob_s, gt_s, s_iastore, iiR_s, ia_s, s_ifCond_le, p1_s, true_and, and_true, Nat.le_refl, true_implies, forall_const, not_false_eq_true, false_implies, not_true_eq_false, reduceCtorEq, tl_s, tl_n, rf_s, List.cons_append, List.nil_append, true_or, or_true, m1.c, m1.g9, m9.c, q12, f16, upd_ui, ex_ix (i := C.length) (n := 64) (by omega), ex_iy (i := C.length) (n := 64) (by omega)]
        refine b_le (by omega) (by omega) (fun c0 => ?_) (fun c0 => ?_)
        · refine same ?_
          obtain rfl : C = [] := List.length_eq_zero_iff.mp (by omega)
          rfl
        · have z1 : ua A 9 C.length (1000 * x1 + n1) 9 (C.length - 1) = pg C (C.length - 1) := by rw [z9, if_neg (by omega)]; exact p3 _ (by omega)
          have hp1 := hP (C.length - 1) (by omega)
          refine B_Model_readsStroke_40 ?_
          simp only [wp_cons, wp_nil, List.getElem?_cons_zero, List.getElem?_cons_succ, List.set_cons_zero, List.set_cons_succ, s_aload_n0, ldA_r, ldA_n, s_getfield, pR_s, ob_s, gt_s, s_iconst, s_isub, p2_s, I_sub, s_iaload, iR_s, ia_s, s_if_icmp_ne, true_and, and_true, Nat.le_refl, true_implies, forall_const, not_false_eq_true, false_implies, not_true_eq_false, reduceCtorEq, tl_s, tl_n, rf_s, List.cons_append, List.nil_append, true_or, or_true, m9.c, m9.g9, q12, f16, z1, ex_ie (x := (C.length : Int) - 1) (i := C.length - 1) (n := 64) (by omega) (by omega)]
          refine b_ne (by omega) (by omega) (fun c3 => ?_) (fun c3 => ?_)
          · refine same ?_
            rw [hpr2]
            by_cases c4 : rpt C (C.length - 1) 1 = -6
            · have cn : ¬ rpt C (C.length - 1) 1 ≠ -6 := fun q => q c4
              rw [if_neg cn, if_neg (fun q => c3 q.2.symm), c4]
            · rw [if_pos c4]
          · refine B_Model_readsStroke_58 ?_
            simp only [wp_cons, wp_nil, List.getElem?_cons_zero, List.getElem?_cons_succ, List.set_cons_zero, List.set_cons_succ, s_aload_n0, ldA_r, ldA_n, s_getfield, pR_s, ob_s, gt_s, s_invokevirtual, rc_s, List.drop_succ_cons, List.drop_zero, List.take_succ_cons, List.take_zero, List.reverse_cons, List.reverse_nil, List.nil_append, List.cons_append, List.length_cons, List.length_nil, d1, Int.reduceToNat, Nat.reduceAdd, Nat.reduceLeDiff, true_and, and_true, Nat.le_refl, true_implies, forall_const, not_false_eq_true, false_implies, not_true_eq_false, reduceCtorEq, tl_s, tl_n, rf_s, true_or, or_true, m9.c, m9.g9, q12, f16, z1, ex_ie (x := (C.length : Int) - 1) (i := C.length - 1) (n := 64) (by omega) (by omega)]
            refine Mdl_mk_c (v := (C.length : Int)) m9 (by omega) (by rw [b19]; exact mkb_i h19 h18) (fun h2 r2 c2 m2 g1 g19 g20 => ?_)
            rw [bpair, b18, mkb_2 h186] at g19 g20
            rw [if_pos (show 0 < C.length ∧ 1000 * x1 + n1 = pg C (C.length - 1) from ⟨by omega, c3.symm⟩)] at hpr2
            exact rest h2 r2 ((c9 _).tr c2) m2 g1 (by rw [hpr2, g19]) (by rw [hpr2, g20])
      · refine B_Model_readsStroke_15 ?_
        simp only [wp_cons, wp_nil, List.getElem?_cons_zero, List.getElem?_cons_succ, List.set_cons_zero, List.set_cons_succ, s_ifCond_ne, p1_s, true_and, and_true, Nat.le_refl, true_implies, forall_const, not_false_eq_true, false_implies, not_true_eq_false, reduceCtorEq, tl_s, tl_n, rf_s, List.cons_append, List.nil_append, true_or, or_true, hm.c]
        refine B_Model_readsStroke_18 ?_
        simp only [wp_cons, wp_nil, List.getElem?_cons_zero, List.getElem?_cons_succ, List.set_cons_zero, List.set_cons_succ, s_iconst, s_ireturn, p1_s, rI_i, rI_z, rI_c, z_01, z_11, rt_Model_readsStroke, true_and, and_true, Nat.le_refl, true_implies, forall_const, not_false_eq_true, false_implies, not_true_eq_false, reduceCtorEq, tl_s, tl_n, rf_s, List.cons_append, List.nil_append, true_or, or_true, hm.c]
        exact hF h1 r1 A k1 (hc.tr c1) m1 (fun n hn => by rw [f1 n (by omega), e1 n hn]) e2 f15 hk4 (by rw [hd, hd1])
  have m1 := hm0.f12 0
  refine Call.intro (by rfl) (Nat.le_of_ble_eq_true rfl) ?_
  refine G.eqL (L := [some (.ref _), none]) rfl ?_
  refine B_Model_readsStroke_0 ?_
  simp only [wp_cons, wp_nil, List.getElem?_cons_zero, List.getElem?_cons_succ, List.set_cons_zero, List.set_cons_succ, s_aload_n0, ldA_r, ldA_n, s_iconst, s_putfield, pv_i, pv_z, pv_r, pv_f, ob_s, z_01, z_11, List.length_cons, List.length_nil, s_istore_n1, p1_s, s1_0, s1_s, kx_i, kx_r, kx_n, kx_l, kx_0, true_and, and_true, Nat.le_refl, true_implies, forall_const, not_false_eq_true, false_implies, not_true_eq_false, reduceCtorEq, tl_s, tl_n, rf_s, List.cons_append, List.nil_append, true_or, or_true, hm0.c, Nat.reduceLT, Nat.reduceAdd]
  refine loop (T.length - i + 1) i [] x0 _ _ A0 (by omega) (chg.set _ (by omega)) m1 (fun n hn => ui_n _ _ (by omega)) (fun n _ => rfl) (by rw [ui_n _ _ (by omega), hi]) pts.nil stP_nil (by simp) hi2 (by rfl) rfl ?_ ?_
  · rw [ui_n _ _ (by omega)]
    show _ = (mkb (r0 19, r0 20) (r0 18) (-6)).1
    rw [mkb_n]
  · rw [ui_n _ _ (by omega)]
    show _ = (mkb (r0 19, r0 20) (r0 18) (-6)).2
    rw [mkb_n]
