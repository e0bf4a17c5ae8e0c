/-! ===== the reference: read ===== -/
theorem mst.fl {r r' : Nat → Int} {A A' : Nat → Nat → Int} {s : Sta} {Hs : List Sta} {T : List Int} {l l' : Int × Int × Int} (q : mst r A (s, Hs, T, l)) (h3 : ∀ n, n < 12 → r' n = r n) (hA : ∀ n, n = 1 ∨ n = 3 ∨ n = 4 → A' n = A n) (h0 : A' 5 0 = l'.1) (h1 : A' 5 1 = l'.2.1) (h2 : A' 5 2 = l'.2.2) : mst r' A' (s, Hs, T, l') := by
  obtain ⟨q1, q2, q3, q4, q5, q6, q7, q8⟩ := q
  refine ⟨?_, (h3 3 (by omega)).trans q2, ?_, (h3 5 (by omega)).trans q4, ?_, h0, h1, h2⟩
  · rw [hA 1 (by omega)]; exact q1
  · rw [hA 3 (by omega)]; exact q3
  · rw [hA 4 (by omega)]; exact q5
theorem fl3 {A : Nat → Nat → Int} {u v x : Int} : ua (ua (ua A 5 0 u) 5 1 v) 5 2 x 5 0 = u ∧ ua (ua (ua A 5 0 u) 5 1 v) 5 2 x 5 1 = v ∧ ua (ua (ua A 5 0 u) 5 1 v) 5 2 x 5 2 = x := by
  refine ⟨?_, ?_, ?_⟩
  · rw [ua_s, ui_n _ _ (by omega), ua_s, ui_n _ _ (by omega), ua_s, ui_s]
  · rw [ua_s, ui_n _ _ (by omega), ua_s, ui_s]
  · rw [ua_s, ui_s]
theorem Mdl_read_l {d M : Nat} (hd : 9 ≤ d) {Ss : List Stk} {pn : Stk} {T : List Int} {many : Int} {r0 : Nat → Int} {A0 : Nat → Nat → Int} {h0 : g_H} {Q : g_Po} (ht0 : txm r0 A0 T) (he : errT T = -6) (hpn : pn.1.length ≤ 30) (h18 : i32 (r0 18)) (h186 : r0 18 ≠ -6) (hsz : Ss.length + (prsT T).length ≤ 10) (hb0 : ∀ i, i < Ss.length → (sg Ss i).1.length ≤ 30)
    (hQ : ∀ h' r' A', chg M (M + 10) h0 h' → mdl h' M r' A' → (∀ n, n < 12 → r' n = r0 n) → (∀ n, n ≠ 1 → n ≠ 9 → A' n = A0 n) → stR (A' 1) (Ss ++ prsT T, pn) → G Model_read d 0 0 0 0 137 [some (.ref M), some (.int (I many))] [] h' Q) :
    ∀ (m i : Nat) (As : List Stk) (x : Int) (h : g_H) (r : Nat → Int) (A : Nat → Nat → Int), T.length - i < m → chg M (M + 10) h0 h → mdl h M r A → (∀ n, n < 12 ∨ n = 18 → r n = r0 n) → (∀ n, n ≠ 1 → n ≠ 9 → A n = A0 n) → r 15 = i → i32 (r 19) → stR (A 1) (Ss ++ As, pn) → (∀ j, j < As.length → (sg As j).1.length ≤ 30) → (i < T.length ∧ dfa T (T.length - i) i 0 1 = -6 ∧ prs T (T.length - i) i As [] false x 0 = prsT T) ∨ (i = T.length ∧ As = prsT T) → G Model_read d 0 0 0 0 102 [some (.ref M), some (.int (I many))] [] h Q := by
  have d1 : 1 ≤ d := by omega
  have tl := ht0.2.2.1
  intro m
  induction m with
  | zero => intro i As x h r A hi; omega
  | succ m ih =>
    intro i As x h r A hi hc hm e1 e2 e15 e19 hr hb hcase
    have ht := ht0.kp (r' := r) (A' := A) (e1 5 (by omega)) (e2 4 (by omega) (by omega))
    have kl : r 5 = (T.length : Int) := ht.1
    rcases hcase with ⟨hi2, hd0, hpr⟩ | ⟨hi2, hA⟩
    · have hal := prs_len (T := T) (T.length - i) i As [] false x 0
      rw [hpr] at hal
      refine B_Model_read_102 ?_
      simp only [wp_cons, wp_nil, List.getElem?_cons_zero, List.getElem?_cons_succ, List.set_cons_zero, List.set_cons_succ, s_aload_n0, ldA_r, ldA_n, s_getfield, pR_s, ob_s, gt_s, s_if_icmp_ge, p2_s, true_and, and_true, Nat.le_refl, true_implies, forall_const, not_false_eq_true, false_implies, not_true_eq_false, reduceCtorEq, tl_s, tl_n, rf_s, List.cons_append, List.nil_append, true_or, or_true, hm.c, e15, kl]
      refine b_le (by omega) (by omega) (fun cc => absurd cc (by omega)) (fun _ => ?_)
      refine B_Model_read_113 ?_
      simp only [wp_cons, wp_nil, List.getElem?_cons_zero, List.getElem?_cons_succ, List.set_cons_zero, List.set_cons_succ, s_aload_n0, ldA_r, ldA_n, s_invokevirtual, rc_s, ob_s, List.drop_succ_cons, List.drop_zero, List.take_succ_cons, List.take_zero, List.reverse_cons, List.reverse_nil, List.nil_append, List.cons_append, List.length_cons, List.length_nil, d1, Int.reduceToNat, Nat.reduceAdd, Nat.reduceLeDiff, true_and, and_true, Nat.le_refl, true_implies, forall_const, not_false_eq_true, false_implies, not_true_eq_false, reduceCtorEq, tl_s, tl_n, rf_s, true_or, or_true, hm.c, e15, kl]
      refine Mdl_rs_c (As := As) (x0 := x) (by omega) hm ht e15 (by omega) (by rw [e1 18 (by omega)]; exact h18) (by rw [e1 18 (by omega)]; exact h186) e19 (fun h1 r1 A1 k C x1 n1 s1 c1 m1 f1 f2 f15 fp fP fl flk hk hs hd1 hpr1 hst f19 f20 => ?_) (fun h1 r1 A1 k c1 m1 f1 f2 f15 hk hd1 => ?_)
      · obtain ⟨zb, hz⟩ : ∃ zb : Bool, zb = true ↔ 3 ≤ ((C ++ [1000 * x1 + n1]).length : Int) ∧ k < T.length ∧ pg T k = 122 := ⟨decide _, decide_eq_true_iff⟩
        have ht1 := ht.kp (r' := r1) (A' := A1) (f1 5 (by omega)) (f2 4 (by omega))
        obtain ⟨g1, g2, g3⟩ := dfa_row (As := As) hk hs rfl (by omega) hst hz
        have i19 : i32 (r1 19) := by rw [f19]; exact mkb_i e19 (by rw [e1 18 (by omega)]; exact h18)
        refine B_Model_read_117 ?_
        simp only [wp_cons, wp_nil, List.getElem?_cons_zero, List.getElem?_cons_succ, List.set_cons_zero, List.set_cons_succ, s_pop, p1v_i, p1v_r, s_aload_n0, ldA_r, ldA_n, s_invokevirtual, rc_s, ob_s, List.drop_succ_cons, List.drop_zero, List.take_succ_cons, List.take_zero, List.reverse_cons, List.reverse_nil, List.nil_append, List.cons_append, List.length_cons, List.length_nil, d1, Int.reduceToNat, Nat.reduceAdd, Nat.reduceLeDiff, true_and, and_true, Nat.le_refl, true_implies, forall_const, not_false_eq_true, false_implies, not_true_eq_false, reduceCtorEq, tl_s, tl_n, rf_s, true_or, or_true, m1.c]
        refine Mdl_rc_c (by omega) m1 ht1 f15 hk fp fP fl i19 hz (fun h2 r2 c2 m2 k1 k15 k19 k20 => ?_)
        have hr2 : stR (A1 1) (Ss ++ As, pn) := by rw [f2 1 (by omega)]; exact hr
        have i2 : i32 (r2 19) := by
          rw [k19]
          split
          · exact mkb_i i19 (by rw [f1 18 (by omega), e1 18 (by omega)]; exact h18)
          · exact i19
        refine B_Model_read_123 ?_
        simp only [wp_cons, wp_nil, List.getElem?_cons_zero, List.getElem?_cons_succ, List.set_cons_zero, List.set_cons_succ, s_invokevirtual, rc_s, ob_s, List.drop_succ_cons, List.drop_zero, List.take_succ_cons, List.take_zero, List.reverse_cons, List.reverse_nil, List.nil_append, List.cons_append, List.length_cons, List.length_nil, d1, Int.reduceToNat, Nat.reduceAdd, Nat.reduceLeDiff, true_and, and_true, Nat.le_refl, true_implies, forall_const, not_false_eq_true, false_implies, not_true_eq_false, reduceCtorEq, tl_s, tl_n, rf_s, true_or, or_true, m2.c]
        refine Mdl_adds_c (z := zb) (by omega) m2 ⟨by rw [k1 12 (by omega)]; exact fp.1, fp.2.1, fp.2.2⟩ (by omega) hr2 (fun j hj => ?_) hpn (by rw [List.length_append]; omega) (fun h3 A3 c3 m3 j2 hr3 => ?_)
        · rw [List.length_append] at hj
          by_cases e : j < Ss.length
          · rw [sg_app_l _ _ e]; exact hb0 j e
          · rw [sg_app_r _ _ (by omega)]; exact hb _ (by omega)
        rw [List.append_assoc] at hr3
        have ht3 := ht1.kp (r' := r2) (A' := A3) (k1 5 (by omega)) (j2 4 (by omega))
        have hk' : k + (if zb = true then 1 else 0) ≤ T.length := by
          by_cases z : zb = true
          · have := (hz.mp z).2.1
            rw [if_pos z]; omega
          · rw [if_neg z]; omega
        have fr : ∀ n, n < 12 ∨ n = 18 → r2 n = r0 n := fun n hn => by rw [k1 n (by omega), f1 n (by omega), e1 n hn]
        have frA : ∀ n, n ≠ 1 → n ≠ 9 → A3 n = A0 n := fun n h1 h9 => by rw [j2 n h1, f2 n h9, e2 n h1 h9]
        have hb2 : ∀ j, j < (As ++ [(C ++ [1000 * x1 + n1], zb)]).length → (sg (As ++ [(C ++ [1000 * x1 + n1], zb)]) j).1.length ≤ 30 := by
          intro j hj
          rw [List.length_append] at hj
          replace hj : j < As.length + 1 := hj
          by_cases e : j < As.length
          · rw [sg_app_l _ _ e]; exact hb j e
          · rw [sg_app_r _ _ (by omega), show j - As.length = 0 by omega]
            show (C ++ [1000 * x1 + n1]).length ≤ 30
            omega
        refine B_Model_read_126 ?_
        simp only [wp_cons, wp_nil, List.getElem?_cons_zero, List.getElem?_cons_succ, List.set_cons_zero, List.set_cons_succ, s_pop, p1v_i, p1v_r, s_aload_n0, ldA_r, ldA_n, s_bipush, s_invokevirtual, rc_s, ob_s, List.drop_succ_cons, List.drop_zero, List.take_succ_cons, List.take_zero, List.reverse_cons, List.reverse_nil, List.nil_append, List.cons_append, List.length_cons, List.length_nil, d1, Int.reduceToNat, Nat.reduceAdd, Nat.reduceLeDiff, true_and, and_true, Nat.le_refl, true_implies, forall_const, not_false_eq_true, false_implies, not_true_eq_false, reduceCtorEq, tl_s, tl_n, rf_s, true_or, or_true, m3.c]
        refine Mdl_nx_c (by omega) m3 ht3 k15 (by omega) (by omega) (fun q h4 r4 c4 m4 j1 j15 => ?_) (fun q h4 r4 c4 m4 j1 j15 => ?_)
        · obtain ⟨u1, u2⟩ := g2 q.1 q.2
          refine B_Model_read_133 ?_
          simp only [wp_cons, wp_nil, List.getElem?_cons_zero, List.getElem?_cons_succ, List.set_cons_zero, List.set_cons_succ, s_pop, p1v_i, p1v_r, s_goto, true_and, and_true, Nat.le_refl, true_implies, forall_const, not_false_eq_true, false_implies, not_true_eq_false, reduceCtorEq, tl_s, tl_n, rf_s, List.cons_append, List.nil_append, true_or, or_true, m3.c]
          have hd3 : dfa T (T.length - (k + (if zb = true then 1 else 0) + 1)) (k + (if zb = true then 1 else 0) + 1) 0 1 = -6 := by rw [← u1, ← hd1, hd0]
          refine ih (k + (if zb = true then 1 else 0) + 1) (As ++ [(C ++ [1000 * x1 + n1], zb)]) x1 h4 r4 A3 (by omega) ((((hc.tr c1).tr c2).tr c3).tr c4) m4 (fun n hn => by rw [j1 n (by omega), fr n hn]) frA j15 (by rw [j1 19 (by omega)]; exact i2) hr3 hb2 (Or.inl ⟨?_, hd3, by rw [← u2, ← hpr1, hpr]⟩)
          by_cases e : k + (if zb = true then 1 else 0) + 1 = T.length
          · rw [e, Nat.sub_self] at hd3
            have : dfa T 0 T.length 0 1 = T.length := if_neg (by omega)
            omega
          · omega
        · refine B_Model_read_133 ?_
          simp only [wp_cons, wp_nil, List.getElem?_cons_zero, List.getElem?_cons_succ, List.set_cons_zero, List.set_cons_succ, s_pop, p1v_i, p1v_r, s_goto, true_and, and_true, Nat.le_refl, true_implies, forall_const, not_false_eq_true, false_implies, not_true_eq_false, reduceCtorEq, tl_s, tl_n, rf_s, List.cons_append, List.nil_append, true_or, or_true, m3.c]
          have e : k + (if zb = true then 1 else 0) = T.length := by
            by_cases e : k + (if zb = true then 1 else 0) = T.length
            · exact e
            · have u := g3 (by omega) (fun q2 => q ⟨by omega, q2⟩)
              rw [hd1, u] at hd0
              omega
          obtain ⟨u1, u2⟩ := g1 e
          refine ih (k + (if zb = true then 1 else 0)) (As ++ [(C ++ [1000 * x1 + n1], zb)]) x1 h4 r4 A3 (by omega) ((((hc.tr c1).tr c2).tr c3).tr c4) m4 (fun n hn => by rw [j1 n (by omega), fr n hn]) frA j15 (by rw [j1 19 (by omega)]; exact i2) hr3 hb2 (Or.inr ⟨e, by rw [← u2, ← hpr1, hpr]⟩)
      · rw [hd1] at hd0
        omega
    · refine B_Model_read_102 ?_
      simp only [wp_cons, wp_nil, List.getElem?_cons_zero, List.getElem?_cons_succ, List.set_cons_zero, List.set_cons_succ, s_aload_n0, ldA_r, ldA_n, s_getfield, pR_s, ob_s, gt_s, s_if_icmp_ge, p2_s, true_and, and_true, Nat.le_refl, true_implies, forall_const, not_false_eq_true, false_implies, not_true_eq_false, reduceCtorEq, tl_s, tl_n, rf_s, List.cons_append, List.nil_append, true_or, or_true, hm.c, e15, kl]
      refine b_le (by omega) (by omega) (fun _ => ?_) (fun cc => absurd cc (by omega))
      rw [hA] at hr
      exact hQ h r A hc hm (fun n hn => e1 n (by omega)) e2 hr
theorem Mdl_read_c {d M : Nat} (hd : 9 ≤ d) {W : Wd} {h : g_H} {Q : g_Po} (w : wfW W) (hp : mrep h M W) (hQ : MQ9 M h Q (sp_read W)) : Call Model_read d 0 0 [.ref M] h Q := by
  have d1 : 1 ≤ d := by omega
  obtain ⟨⟨Ss, pn⟩, Hs, T, l⟩ := W
  obtain ⟨r, A, hm, ht⟩ := id hp
  have wT := w.g.2.2.2.2
  have hpn := w.g.2.1.1
  have wl := w.g.1.l
  have heb := errT_bd T
  have k0 := ex_ie (x := 0) (i := 0) (n := 352) rfl (by omega)
  have k1 := ex_ie (x := 1) (i := 1) (n := 352) rfl (by omega)
  have k0y := ex_iz (x := 0) (i := 0) (n := 352) rfl (by omega)
  have k1y := ex_iz (x := 1) (i := 1) (n := 352) rfl (by omega)
  have tl := wT.1
  unfold sp_read flW at hQ
  dsimp only at hQ
  refine Call.intro (by rfl) (Nat.le_of_ble_eq_true rfl) ?_
  refine G.eqL (L := [some (.ref _), none]) rfl ?_
  refine B_Model_read_0 ?_
  simp only [wp_cons, wp_nil, List.getElem?_cons_zero, List.getElem?_cons_succ, List.set_cons_zero, List.set_cons_succ, s_aload_n0, ldA_r, ldA_n, s_invokevirtual, rc_s, ob_s, List.drop_succ_cons, List.drop_zero, List.take_succ_cons, List.take_zero, List.reverse_cons, List.reverse_nil, List.nil_append, List.cons_append, List.length_cons, List.length_nil, d1, Int.reduceToNat, Nat.reduceAdd, Nat.reduceLeDiff, true_and, and_true, Nat.le_refl, true_implies, forall_const, not_false_eq_true, false_implies, not_true_eq_false, reduceCtorEq, tl_s, tl_n, rf_s, true_or, or_true, hm.c]
  refine Mdl_fe_c (by omega) hm (ht.t wT) (fun h1 r1 A1 c1 m1 e1 e2 ex => ?_)
  have ht1 := ht.k9 e1 e2
  have a1 : A1 1 1 = pn.1.length := ht1.1.2.1
  have a0 : A1 1 0 = Ss.length := ht1.1.1
  have wl1 : Ss.length ≤ 10 := wl.1
  by_cases c : errT T = -6
  · rw [if_neg (fun q => q c)] at hQ
    obtain ⟨x18, x19, x20⟩ := ex c
    obtain ⟨q1, q2, q3⟩ := prsT_ok wT c
    have hfb := frb_bd (prsT T) (prsT T).length 0
    refine B_Model_read_4 ?_
    simp only [wp_cons, wp_nil, List.getElem?_cons_zero, List.getElem?_cons_succ, List.set_cons_zero, List.set_cons_succ, s_bipush, s_if_icmp_eq, p2_s, true_and, and_true, Nat.le_refl, true_implies, forall_const, not_false_eq_true, false_implies, not_true_eq_false, reduceCtorEq, tl_s, tl_n, rf_s, List.cons_append, List.nil_append, true_or, or_true, m1.c]
    refine b_eq (by omega) (by omega) (fun _ => ?_) (fun cc => absurd c cc)
    refine B_Model_read_20 ?_
    simp only [wp_cons, wp_nil, List.getElem?_cons_zero, List.getElem?_cons_succ, List.set_cons_zero, List.set_cons_succ, s_aload_n0, ldA_r, ldA_n, s_getfield, pR_s, ob_s, gt_s, s_iconst, s_iaload, iR_s, ia_s, s_ifCond_le, p1_s, true_and, and_true, Nat.le_refl, true_implies, forall_const, not_false_eq_true, false_implies, not_true_eq_false, reduceCtorEq, tl_s, tl_n, rf_s, List.cons_append, List.nil_append, true_or, or_true, m1.c, m1.g1, a1, k1, ex_ie]
    by_cases c2 : 0 < pn.1.length
    · rw [if_pos c2] at hQ
      refine b_le (by omega) (by omega) (fun cc => absurd cc (by omega)) (fun _ => ?_)
      refine B_Model_read_29 ?_
      simp only [wp_cons, wp_nil, List.getElem?_cons_zero, List.getElem?_cons_succ, List.set_cons_zero, List.set_cons_succ, s_aload_n0, ldA_r, ldA_n, s_bipush, s_invokevirtual, rc_s, ob_s, List.drop_succ_cons, List.drop_zero, List.take_succ_cons, List.take_zero, List.reverse_cons, List.reverse_nil, List.nil_append, List.cons_append, List.length_cons, List.length_nil, d1, Int.reduceToNat, Nat.reduceAdd, Nat.reduceLeDiff, true_and, and_true, Nat.le_refl, true_implies, forall_const, not_false_eq_true, false_implies, not_true_eq_false, reduceCtorEq, tl_s, tl_n, rf_s, true_or, or_true, m1.c, m1.g1, a1, k1, ex_ie]
      refine Mdl_fails_c m1 (fun h2 c2 m2 => ?_)
      refine B_Model_read_39 ?_
      simp only [wp_cons, wp_nil, List.getElem?_cons_zero, List.getElem?_cons_succ, List.set_cons_zero, List.set_cons_succ, s_ireturn, p1_s, rI_i, rI_z, rI_c, z_01, z_11, rt_Model_read, true_and, and_true, Nat.le_refl, true_implies, forall_const, not_false_eq_true, false_implies, not_true_eq_false, reduceCtorEq, tl_s, tl_n, rf_s, List.cons_append, List.nil_append, true_or, or_true, m1.c, m1.g1, a1, k1, ex_ie]
      exact hQ h2 (c1.tr c2) ⟨_, _, m2, ht1.fl (fun n _ => rfl) (fun n hn => by rw [ua_n _ _ _ (by omega), ua_n _ _ _ (by omega), ua_n _ _ _ (by omega)]) fl3.1 fl3.2.1 fl3.2.2⟩
    · rw [if_neg c2] at hQ
      refine b_le (by omega) (by omega) (fun _ => ?_) (fun cc => absurd cc (by omega))
      have hfi : i32 (frb (prsT T) (prsT T).length 0).1 := by
        have key : ∀ m i, i + m ≤ 100 → i32 (frb (prsT T) m i).1 := by
          intro m
          induction m with
          | zero => intro i _; show i32 (-6); omega
          | succ m ih =>
            intro i hi
            unfold frb
            split
            · show i32 (i : Int); omega
            · exact ih (i + 1) (by omega)
        exact key _ _ (by omega)
      refine B_Model_read_40 ?_
      simp only [wp_cons, wp_nil, List.getElem?_cons_zero, List.getElem?_cons_succ, List.set_cons_zero, List.set_cons_succ, s_aload_n0, ldA_r, ldA_n, s_getfield, pR_s, ob_s, gt_s, s_bipush, s_if_icmp_eq, p2_s, true_and, and_true, Nat.le_refl, true_implies, forall_const, not_false_eq_true, false_implies, not_true_eq_false, reduceCtorEq, tl_s, tl_n, rf_s, List.cons_append, List.nil_append, true_or, or_true, m1.c, x19, x20]
      by_cases c3 : (frb (prsT T) (prsT T).length 0).1 = -6
      · rw [if_neg (fun q => q c3)] at hQ
        refine b_eq (by omega) (by omega) (fun _ => ?_) (fun cc => absurd c3 cc)
        refine B_Model_read_64 ?_
        simp only [wp_cons, wp_nil, List.getElem?_cons_zero, List.getElem?_cons_succ, List.set_cons_zero, List.set_cons_succ, s_aload_n0, ldA_r, ldA_n, s_getfield, pR_s, ob_s, gt_s, s_istore_n1, p1_s, s1_0, s1_s, kx_i, kx_r, kx_n, kx_l, kx_0, s_iconst, s_iaload, iR_s, ia_s, s_iload_n1, ldI_s, s_iadd, p2_s, I_add, s_bipush, s_if_icmp_le, true_and, and_true, Nat.le_refl, true_implies, forall_const, not_false_eq_true, false_implies, not_true_eq_false, reduceCtorEq, tl_s, tl_n, rf_s, List.cons_append, List.nil_append, true_or, or_true, m1.c, m1.g1, a0, x18, k0, ex_ie]
        by_cases c4 : 10 < Ss.length + (prsT T).length
        · rw [if_pos c4] at hQ
          refine b_le (by omega) (by omega) (fun cc => absurd cc (by omega)) (fun _ => ?_)
          refine B_Model_read_82 ?_
          simp only [wp_cons, wp_nil, List.getElem?_cons_zero, List.getElem?_cons_succ, List.set_cons_zero, List.set_cons_succ, s_aload_n0, ldA_r, ldA_n, s_bipush, s_invokevirtual, rc_s, ob_s, List.drop_succ_cons, List.drop_zero, List.take_succ_cons, List.take_zero, List.reverse_cons, List.reverse_nil, List.nil_append, List.cons_append, List.length_cons, List.length_nil, d1, Int.reduceToNat, Nat.reduceAdd, Nat.reduceLeDiff, true_and, and_true, Nat.le_refl, true_implies, forall_const, not_false_eq_true, false_implies, not_true_eq_false, reduceCtorEq, tl_s, tl_n, rf_s, true_or, or_true, m1.c, m1.g1, a0, x18, k0, ex_ie]
          refine Mdl_fails_c m1 (fun h2 c2 m2 => ?_)
          refine B_Model_read_92 ?_
          simp only [wp_cons, wp_nil, List.getElem?_cons_zero, List.getElem?_cons_succ, List.set_cons_zero, List.set_cons_succ, s_ireturn, p1_s, rI_i, rI_z, rI_c, z_01, z_11, rt_Model_read, true_and, and_true, Nat.le_refl, true_implies, forall_const, not_false_eq_true, false_implies, not_true_eq_false, reduceCtorEq, tl_s, tl_n, rf_s, List.cons_append, List.nil_append, true_or, or_true, m1.c, m1.g1, a0, x18, k0, ex_ie]
          exact hQ h2 (c1.tr c2) ⟨_, _, m2, ht1.fl (fun n _ => rfl) (fun n hn => by rw [ua_n _ _ _ (by omega), ua_n _ _ _ (by omega), ua_n _ _ _ (by omega)]) fl3.1 fl3.2.1 fl3.2.2⟩
        · rw [if_neg c4] at hQ
          refine b_le (by omega) (by omega) (fun _ => ?_) (fun cc => absurd cc (by omega))
          refine B_Model_read_93 ?_
          simp only [wp_cons, wp_nil, List.getElem?_cons_zero, List.getElem?_cons_succ, List.set_cons_zero, List.set_cons_succ, s_aload_n0, ldA_r, ldA_n, s_invokevirtual, rc_s, ob_s, List.drop_succ_cons, List.drop_zero, List.take_succ_cons, List.take_zero, List.reverse_cons, List.reverse_nil, List.nil_append, List.cons_append, List.length_cons, List.length_nil, d1, Int.reduceToNat, Nat.reduceAdd, Nat.reduceLeDiff, true_and, and_true, Nat.le_refl, true_implies, forall_const, not_false_eq_true, false_implies, not_true_eq_false, reduceCtorEq, tl_s, tl_n, rf_s, true_or, or_true, m1.c, m1.g1, a0, x18, k0, ex_ie]
          refine Mdl_rec_c (by omega) m1 ht1 w (fun h2 r2 A2 c2' m2 e3 e4 s2 => ?_)
          have m3 := m2.f15 0
          refine B_Model_read_97 ?_
          simp only [wp_cons, wp_nil, List.getElem?_cons_zero, List.getElem?_cons_succ, List.set_cons_zero, List.set_cons_succ, s_aload_n0, ldA_r, ldA_n, s_iconst, s_putfield, pv_i, pv_z, pv_r, pv_f, ob_s, z_01, z_11, List.length_cons, List.length_nil, true_and, and_true, Nat.le_refl, true_implies, forall_const, not_false_eq_true, false_implies, not_true_eq_false, reduceCtorEq, tl_s, tl_n, rf_s, List.cons_append, List.nil_append, true_or, or_true, m2.c, Nat.reduceLT, Nat.reduceAdd]
          have t2 : txm r2 A2 T := s2.t wT
          refine Mdl_read_l hd (r0 := ui r2 15 0) (A0 := A2) (h0 := h) (t2.kp (by rw [ui_n _ _ (by omega)]) rfl) c hpn (by rw [ui_n _ _ (by omega), e3 18 (by omega), x18]; omega) (by rw [ui_n _ _ (by omega), e3 18 (by omega), x18]; omega) (by omega) (fun i hi => (wl.2 i hi).2.1) (fun h5 r5 A5 c5 m5 f1 f2 hr5 => ?_) (T.length + 1) 0 [] 0 _ _ A2 (by omega) ((c1.tr c2').tr (chg.set _ (by omega))) m3 (fun n _ => rfl) (fun n _ _ => rfl) (by rw [ui_s]; rfl) (by rw [ui_n _ _ (by omega), e3 19 (by omega), x19]; exact hfi) (by rw [List.append_nil]; exact s2.1) (fun j hj => absurd hj (by simp)) (Or.inl ⟨?_, c, rfl⟩)
          · have m6 := m5.f5 0
            refine B_Model_read_137 ?_
            simp only [wp_cons, wp_nil, List.getElem?_cons_zero, List.getElem?_cons_succ, List.set_cons_zero, List.set_cons_succ, s_aload_n0, ldA_r, ldA_n, s_iconst, s_putfield, pv_i, pv_z, pv_r, pv_f, ob_s, z_01, z_11, List.length_cons, List.length_nil, s_iload_n1, ldI_s, s_ireturn, p1_s, rI_i, rI_z, rI_c, rt_Model_read, true_and, and_true, Nat.le_refl, true_implies, forall_const, not_false_eq_true, false_implies, not_true_eq_false, reduceCtorEq, tl_s, tl_n, rf_s, List.cons_append, List.nil_append, true_or, or_true, m5.c, Nat.reduceLT, Nat.reduceAdd]
            refine hQ _ (c5.tr (chg.set _ (by omega))) ⟨_, _, m6, ?_⟩
            obtain ⟨y1, y2, y3, y4, y5, y6, y7, y8⟩ := s2
            refine ⟨hr5, ?_, ?_, ?_, fun i hi => absurd hi (by simp), ?_, ?_, ?_⟩
            · rw [ui_n _ _ (by omega), f1 3 (by omega), ui_n _ _ (by omega)]; exact y2
            · rw [f2 3 (by omega) (by omega)]; exact y3
            · rw [ui_s]; rfl
            · rw [f2 5 (by omega) (by omega)]; exact y6
            · rw [f2 5 (by omega) (by omega)]; exact y7
            · rw [f2 5 (by omega) (by omega)]; exact y8
          · by_cases e : 0 < T.length
            · exact e
            · have e0 : T.length = 0 := by omega
              have : errT T = T.length := by
                unfold errT
                rw [e0]
                show (if (4 : Int) < 0 ∧ _ then (-6 : Int) else T.length) = _
                rw [if_neg (by omega), e0]
              omega
      · rw [if_pos c3] at hQ
        refine b_eq (by omega) (by omega) (fun cc => absurd cc c3) (fun _ => ?_)
        refine B_Model_read_49 ?_
        simp only [wp_cons, wp_nil, List.getElem?_cons_zero, List.getElem?_cons_succ, List.set_cons_zero, List.set_cons_succ, s_aload_n0, ldA_r, ldA_n, s_bipush, s_getfield, pR_s, ob_s, gt_s, s_invokevirtual, rc_s, List.drop_succ_cons, List.drop_zero, List.take_succ_cons, List.take_zero, List.reverse_cons, List.reverse_nil, List.nil_append, List.cons_append, List.length_cons, List.length_nil, d1, Int.reduceToNat, Nat.reduceAdd, Nat.reduceLeDiff, true_and, and_true, Nat.le_refl, true_implies, forall_const, not_false_eq_true, false_implies, not_true_eq_false, reduceCtorEq, tl_s, tl_n, rf_s, true_or, or_true, m1.c, x19, x20]
        refine Mdl_fails_c m1 (fun h2 c2 m2 => ?_)
        refine B_Model_read_63 ?_
        simp only [wp_cons, wp_nil, List.getElem?_cons_zero, List.getElem?_cons_succ, List.set_cons_zero, List.set_cons_succ, s_ireturn, p1_s, rI_i, rI_z, rI_c, z_01, z_11, rt_Model_read, true_and, and_true, Nat.le_refl, true_implies, forall_const, not_false_eq_true, false_implies, not_true_eq_false, reduceCtorEq, tl_s, tl_n, rf_s, List.cons_append, List.nil_append, true_or, or_true, m1.c, x19, x20]
        exact hQ h2 (c1.tr c2) ⟨_, _, m2, ht1.fl (fun n _ => rfl) (fun n hn => by rw [ua_n _ _ _ (by omega), ua_n _ _ _ (by omega), ua_n _ _ _ (by omega)]) fl3.1 fl3.2.1 fl3.2.2⟩
  · rw [if_pos c] at hQ
    refine B_Model_read_4 ?_
    simp only [wp_cons, wp_nil, List.getElem?_cons_zero, List.getElem?_cons_succ, List.set_cons_zero, List.set_cons_succ, s_bipush, s_if_icmp_eq, p2_s, true_and, and_true, Nat.le_refl, true_implies, forall_const, not_false_eq_true, false_implies, not_true_eq_false, reduceCtorEq, tl_s, tl_n, rf_s, List.cons_append, List.nil_append, true_or, or_true, m1.c]
    refine b_eq (by omega) (by omega) (fun cc => absurd cc c) (fun _ => ?_)
    refine B_Model_read_9 ?_
    simp only [wp_cons, wp_nil, List.getElem?_cons_zero, List.getElem?_cons_succ, List.set_cons_zero, List.set_cons_succ, s_aload_n0, ldA_r, ldA_n, s_bipush, s_invokevirtual, rc_s, ob_s, List.drop_succ_cons, List.drop_zero, List.take_succ_cons, List.take_zero, List.reverse_cons, List.reverse_nil, List.nil_append, List.cons_append, List.length_cons, List.length_nil, d1, Int.reduceToNat, Nat.reduceAdd, Nat.reduceLeDiff, true_and, and_true, Nat.le_refl, true_implies, forall_const, not_false_eq_true, false_implies, not_true_eq_false, reduceCtorEq, tl_s, tl_n, rf_s, true_or, or_true, m1.c]
    refine Mdl_fails_c m1 (fun h2 c2 m2 => ?_)
    refine B_Model_read_19 ?_
    simp only [wp_cons, wp_nil, List.getElem?_cons_zero, List.getElem?_cons_succ, List.set_cons_zero, List.set_cons_succ, s_ireturn, p1_s, rI_i, rI_z, rI_c, z_01, z_11, rt_Model_read, true_and, and_true, Nat.le_refl, true_implies, forall_const, not_false_eq_true, false_implies, not_true_eq_false, reduceCtorEq, tl_s, tl_n, rf_s, List.cons_append, List.nil_append, true_or, or_true, m1.c]
    exact hQ h2 (c1.tr c2) ⟨_, _, m2, ht1.fl (fun n _ => rfl) (fun n hn => by rw [ua_n _ _ _ (by omega), ua_n _ _ _ (by omega), ua_n _ _ _ (by omega)]) fl3.1 fl3.2.1 fl3.2.2⟩
