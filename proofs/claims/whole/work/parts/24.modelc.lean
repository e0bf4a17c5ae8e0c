/-! ===== the reference: its world, its record ===== -/
def mst (r : Nat → Int) (A : Nat → Nat → Int) (W : Wd) : Prop := stR (A 1) W.1 ∧ r 3 = W.2.1.length ∧ (∀ j, j < W.2.1.length → stR (fun i => A 3 (352 * j + i)) (hg W.2.1 j)) ∧ r 5 = W.2.2.1.length ∧ (∀ i, i < W.2.2.1.length → A 4 i = pg W.2.2.1 i) ∧ A 5 0 = W.2.2.2.1 ∧ A 5 1 = W.2.2.2.2.1 ∧ A 5 2 = W.2.2.2.2.2
def mrep (h : g_H) (M : Nat) (W : Wd) : Prop := ∃ r A, mdl h M r A ∧ mst r A W
theorem mrep.kp {h h' : g_H} {M lo hi : Nat} {W : Wd} (q : mrep h M W) (c : chg lo hi h h') (ho : M + 10 ≤ lo ∨ hi ≤ M) : mrep h' M W := by
  obtain ⟨r, A, a, b⟩ := q
  exact ⟨r, A, a.kp c ho, b⟩
abbrev MQ9 (M : Nat) (h : g_H) (Q : g_Po) (v : Int × Wd) : Prop := ∀ h', chg M (M + 10) h h' → mrep h' M v.2 → Q (some (.int (I v.1))) h'
/-- another drawing in the state's place -/
theorem mst.s1 {r : Nat → Int} {A A' : Nat → Nat → Int} {s s' : Sta} {w : List Sta × List Int × (Int × Int × Int)} (q : mst r A (s, w)) (h1 : stR (A' 1) s') (h2 : ∀ n, n = 3 ∨ n = 4 ∨ n = 5 → A' n = A n) {r' : Nat → Int} (h3 : r' 3 = r 3) (h4 : r' 5 = r 5) : mst r' A' (s', w) := by
  obtain ⟨q1, q2, q3, q4, q5, q6, q7, q8⟩ := q
  refine ⟨h1, h3.trans q2, ?_, h4.trans q4, ?_, ?_, ?_, ?_⟩
  · rw [h2 3 (by omega)]; exact q3
  · rw [h2 4 (by omega)]; exact q5
  · rw [h2 5 (by omega)]; exact q6
  · rw [h2 5 (by omega)]; exact q7
  · rw [h2 5 (by omega)]; exact q8
theorem mdl.r3 {h h' : g_H} {M : Nat} {r : Nat → Int} {A : Nat → Nat → Int} {G' : Nat → Int} (q : mdl h M r A) (c : chg (M + 3) (M + 3 + 1) h h') (e : h'[M + 3]? = some (.inl (0, 2112, fun i => I (G' i)))) : mdl h' M r (fun n => if n = 3 then G' else A n) :=
  ⟨(c.at (by omega)).trans q.1, (c.at (by omega)).trans q.g1, (c.at (by omega)).trans q.g2, e, (c.at (by omega)).trans q.g4, (c.at (by omega)).trans q.g5, (c.at (by omega)).trans q.g6, (c.at (by omega)).trans q.g7, (c.at (by omega)).trans q.g8, (c.at (by omega)).trans q.g9⟩
theorem Mdl_rec_2 {d M : Nat} (d1 : 1 ≤ d) {s : Sta} {Hs : List Sta} {r : Nat → Int} {A : Nat → Nat → Int} {h : g_H} {Q : g_Po} (x1 : Option Value) (hm : mdl h M r A) (hr : stR (A 1) s) (ws : wfA s) (hH : Hs.length < 6) (h3 : r 3 = Hs.length) (hh : ∀ j, j < Hs.length → stR (fun i => A 3 (352 * j + i)) (hg Hs j)) (hw : ∀ j, j < Hs.length → wfA (hg Hs j))
    (hQ : ∀ h' r' A', chg M (M + 10) h h' → mdl h' M r' A' → (∀ n, n ≠ 3 → r' n = r n) → (∀ n, n ≠ 3 → A' n = A n) → r' 3 = (Hs ++ [s]).length → (∀ j, j < (Hs ++ [s]).length → stR (fun i => A' 3 (352 * j + i)) (hg (Hs ++ [s]) j)) → Q none h') : G Model_record d 0 0 0 0 50 [some (.ref M), x1] [] h Q := by
  refine B_Model_record_50 ?_
  simp only [wp_cons, wp_nil, List.getElem?_cons_zero, List.getElem?_cons_succ, List.set_cons_zero, List.set_cons_succ, s_aload_n0, ldA_r, ldA_n, s_getfield, pR_s, ob_s, gt_s, s_iconst, s_sipush, s_imul, p2_s, I_mul, s_invokestatic, rc_s, List.drop_succ_cons, List.drop_zero, List.take_succ_cons, List.take_zero, List.reverse_cons, List.reverse_nil, List.nil_append, List.cons_append, List.length_cons, List.length_nil, Nat.reduceEqDiff, reduceIte, p1_s, l1_s, d1, Int.reduceToNat, Nat.reduceAdd, Nat.reduceLeDiff, true_and, and_true, Nat.le_refl, true_implies, forall_const, not_false_eq_true, false_implies, not_true_eq_false, reduceCtorEq, tl_s, tl_n, rf_s, true_or, or_true, hm.c, h3]
  rw [show ((Hs.length : Int) * 352) = ((Hs.length * 352 : Nat) : Int) by omega]
  refine Mdl_copies_c (f := 0) hm.g1 hm.g3 (by omega) (by omega) (by omega) (by omega) (by omega) (fun h1 G' c1 g1 e1 e2 => ?_)
  have hm1 := hm.r3 c1 g1
  have hm2 := hm1.f3 ((Hs.length : Int) + 1)
  refine B_Model_record_70 ?_
  simp only [wp_cons, wp_nil, List.getElem?_cons_zero, List.getElem?_cons_succ, List.set_cons_zero, List.set_cons_succ, s_aload_n0, ldA_r, ldA_n, s_dup, p1v_i, p1v_r, s_getfield, pR_s, ob_s, gt_s, s_iconst, s_iadd, p2_s, I_add, s_putfield, pv_i, pv_z, pv_r, pv_f, z_01, z_11, List.length_cons, List.length_nil, s_return_, rt_Model_record, true_and, and_true, Nat.le_refl, true_implies, forall_const, not_false_eq_true, false_implies, not_true_eq_false, reduceCtorEq, tl_s, tl_n, rf_s, List.cons_append, List.nil_append, true_or, or_true, hm1.c, h3, Nat.reduceLT, Nat.reduceAdd]
  refine hQ _ _ _ ((c1.wd (by omega) (by omega)).tr (chg.set _ (by omega))) hm2 (fun n hn => ui_n _ _ hn) (fun n hn => if_neg hn) (by rw [ui_s]; simp) (fun j hj => ?_)
  simp at hj
  by_cases e : j = Hs.length
  · rw [e, hg_app_r _ _ (Nat.le_refl _), Nat.sub_self]
    refine hr.cg (fun i hi => ?_) ws
    show G' (352 * Hs.length + i) = A 1 i
    rw [show 352 * Hs.length + i = Hs.length * 352 + i by omega, e1 i hi, Nat.zero_add]
  · rw [hg_app_l _ _ (by omega)]
    refine (hh j (by omega)).cg (fun i hi => ?_) (hw j (by omega))
    show G' (352 * j + i) = A 3 (352 * j + i)
    exact e2 _ (by omega)
theorem Mdl_rec_c {d M : Nat} (d1 : 1 ≤ d) {W : Wd} {r : Nat → Int} {A : Nat → Nat → Int} {h : g_H} {Q : g_Po} (hm : mdl h M r A) (hs : mst r A W) (w : wfW W)
    (hQ : ∀ h' r' A', chg M (M + 10) h h' → mdl h' M r' A' → (∀ n, n ≠ 3 → r' n = r n) → (∀ n, n ≠ 3 → A' n = A n) → mst r' A' (W.1, hadd W.2.1 W.1, W.2.2) → Q none h') : Call Model_record d 0 0 [.ref M] h Q := by
  obtain ⟨q1, q2, q3, q4, q5, q6, q7, q8⟩ := id hs
  obtain ⟨w1, ⟨w2, w3⟩, w4⟩ := w
  have fin : ∀ (h' : g_H) (r' : Nat → Int) (A' : Nat → Nat → Int) (Hs : List Sta), hadd W.2.1 W.1 = Hs → chg M (M + 10) h h' → mdl h' M r' A' → (∀ n, n ≠ 3 → r' n = r n) → (∀ n, n ≠ 3 → A' n = A n) → r' 3 = Hs.length → (∀ j, j < Hs.length → stR (fun i => A' 3 (352 * j + i)) (hg Hs j)) → Q none h' := by
    intro h' r' A' Hs eH hc hm' e1 e2 e3 e4
    refine hQ h' r' A' hc hm' e1 e2 ⟨by rw [e2 1 (by omega)]; exact q1, by rw [eH]; exact e3, by rw [eH]; exact e4, by rw [e1 5 (by omega)]; exact q4, ?_, ?_, ?_, ?_⟩
    · rw [e2 4 (by omega)]; exact q5
    · rw [e2 5 (by omega)]; exact q6
    · rw [e2 5 (by omega)]; exact q7
    · rw [e2 5 (by omega)]; exact q8
  refine Call.intro (by rfl) (Nat.le_of_ble_eq_true rfl) ?_
  refine G.eqL (L := [some (.ref _), none]) rfl ?_
  by_cases c : W.2.1.length = 6
  · have eH : hadd W.2.1 W.1 = W.2.1.tail ++ [W.1] := by unfold hadd; rw [if_pos c]
    have htl : W.2.1.tail.length = 5 := by rw [List.length_tail]; omega
    have loop : ∀ (m k : Nat) (h1 : g_H) (A1 : Nat → Nat → Int), k + m = 1760 → chg M (M + 10) h h1 → mdl h1 M r A1 → (∀ n, n ≠ 3 → A1 n = A n) → (∀ i, i < k → A1 3 i = A 3 (i + 352)) → (∀ i, k ≤ i → A1 3 i = A 3 i) → G Model_record d 0 0 0 0 11 [some (.ref M), some (.int (I (k : Int)))] [] h1 Q := by
      intro m
      induction m with
      | zero =>
        intro k h1 A1 hk hc hm1 e2 e3 e4
        obtain rfl : k = 1760 := by omega
        have hm2 := hm1.f3 ((W.2.1.length : Int) - 1)
        refine B_Model_record_11 ?_
        simp only [wp_cons, wp_nil, List.getElem?_cons_zero, List.getElem?_cons_succ, List.set_cons_zero, List.set_cons_succ, s_iload_n1, ldI_s, s_sipush, s_if_icmp_ge, p2_s, true_and, and_true, Nat.le_refl, true_implies, forall_const, not_false_eq_true, false_implies, not_true_eq_false, reduceCtorEq, tl_s, tl_n, rf_s, List.cons_append, List.nil_append, true_or, or_true, hm1.c, q2, Nat.reduceLT, Nat.reduceAdd]
        refine b_le (by omega) (by omega) (fun cc => ?_) (fun cc => absurd cc (by omega))
        refine B_Model_record_40 ?_
        simp only [wp_cons, wp_nil, List.getElem?_cons_zero, List.getElem?_cons_succ, List.set_cons_zero, List.set_cons_succ, s_aload_n0, ldA_r, ldA_n, s_dup, p1v_i, p1v_r, s_getfield, pR_s, ob_s, gt_s, s_iconst, s_isub, p2_s, I_sub, s_putfield, pv_i, pv_z, pv_r, pv_f, z_01, z_11, List.length_cons, List.length_nil, true_and, and_true, Nat.le_refl, true_implies, forall_const, not_false_eq_true, false_implies, not_true_eq_false, reduceCtorEq, tl_s, tl_n, rf_s, List.cons_append, List.nil_append, true_or, or_true, hm1.c, q2, Nat.reduceLT, Nat.reduceAdd]
        refine Mdl_rec_2 d1 _ hm2 (s := W.1) (Hs := W.2.1.tail) (by rw [e2 1 (by omega)]; exact q1) w1 (by omega) (by rw [ui_s]; omega) (fun j hj => ?_) (fun j hj => by rw [hg_tail]; exact w3 _ (by omega)) (fun h' r' A' hc' hm' d1 d2 d3 d4 => ?_)
        · rw [hg_tail]
          refine (q3 (j + 1) (by omega)).cg (fun i hi => ?_) (w3 _ (by omega))
          show A1 3 (352 * j + i) = A 3 (352 * (j + 1) + i)
          rw [e3 _ (by omega)]
          congr 1
          omega
        · exact fin h' r' A' _ eH ((hc.tr (chg.set _ (by omega))).tr hc') hm' (fun n hn => by rw [d1 n hn, ui_n _ _ hn]) (fun n hn => by rw [d2 n hn, e2 n hn]) d3 d4
      | succ m ih =>
        intro k h1 A1 hk hc hm1 e2 e3 e4
        refine B_Model_record_11 ?_
        simp only [wp_cons, wp_nil, List.getElem?_cons_zero, List.getElem?_cons_succ, List.set_cons_zero, List.set_cons_succ, s_iload_n1, ldI_s, s_sipush, s_if_icmp_ge, p2_s, true_and, and_true, Nat.le_refl, true_implies, forall_const, not_false_eq_true, false_implies, not_true_eq_false, reduceCtorEq, tl_s, tl_n, rf_s, List.cons_append, List.nil_append, true_or, or_true, hm1.c, hm1.g3, ex_ix (i := k) (n := 2112) (by omega), ex_ie (x := (k : Int) + 352) (i := k + 352) (n := 2112) (by omega) (by omega), upd_ui]
        refine b_le (by omega) (by omega) (fun cc => absurd cc (by omega)) (fun cc => ?_)
        refine B_Model_record_18 ?_
        simp only [wp_cons, wp_nil, List.getElem?_cons_zero, List.getElem?_cons_succ, List.set_cons_zero, List.set_cons_succ, s_aload_n0, ldA_r, ldA_n, s_getfield, pR_s, ob_s, gt_s, s_iload_n1, ldI_s, s_sipush, s_iadd, p2_s, I_add, s_iaload, iR_s, ia_s, s_iastore, iiR_s, s_iinc, s1_0, s1_s, kx_i, kx_r, kx_n, kx_l, kx_0, s_goto, true_and, and_true, Nat.le_refl, true_implies, forall_const, not_false_eq_true, false_implies, not_true_eq_false, reduceCtorEq, tl_s, tl_n, rf_s, List.cons_append, List.nil_append, true_or, or_true, hm1.c, hm1.g3, ex_ix (i := k) (n := 2112) (by omega), ex_ie (x := (k : Int) + 352) (i := k + 352) (n := 2112) (by omega) (by omega), upd_ui]
        refine ih (k + 1) _ _ (by omega) (hc.tr (chg.set _ (by omega))) (hm1.a3 k (A1 3 (k + 352))) (fun n hn => by rw [ua_n _ _ _ hn, e2 n hn]) (fun i hi => ?_) (fun i hi => by rw [ua_s, ui_n _ _ (by omega), e4 i (by omega)])
        rw [ua_s]
        by_cases e : i = k
        · rw [e, ui_s, e4 _ (by omega)]
        · rw [ui_n _ _ e, e3 i (by omega)]
    refine B_Model_record_0 ?_
    simp only [wp_cons, wp_nil, List.getElem?_cons_zero, List.getElem?_cons_succ, List.set_cons_zero, List.set_cons_succ, s_aload_n0, ldA_r, ldA_n, s_getfield, pR_s, ob_s, gt_s, s_bipush, s_if_icmp_ne, p2_s, true_and, and_true, Nat.le_refl, true_implies, forall_const, not_false_eq_true, false_implies, not_true_eq_false, reduceCtorEq, tl_s, tl_n, rf_s, List.cons_append, List.nil_append, true_or, or_true, hm.c, q2]
    refine b_ne (by omega) (by omega) (fun cc => absurd cc (by omega)) (fun cc => ?_)
    refine B_Model_record_9 ?_
    simp only [wp_cons, wp_nil, List.getElem?_cons_zero, List.getElem?_cons_succ, List.set_cons_zero, List.set_cons_succ, s_iconst, s_istore_n1, p1_s, s1_0, s1_s, kx_i, kx_r, kx_n, kx_l, kx_0, true_and, and_true, Nat.le_refl, true_implies, forall_const, not_false_eq_true, false_implies, not_true_eq_false, reduceCtorEq, tl_s, tl_n, rf_s, List.cons_append, List.nil_append, true_or, or_true, hm.c, q2]
    exact loop 1760 0 h A (by omega) chg.rf hm (fun n _ => rfl) (fun i hi => absurd hi (by omega)) (fun i _ => rfl)
  · have eH : hadd W.2.1 W.1 = W.2.1 ++ [W.1] := by unfold hadd; rw [if_neg c]
    refine B_Model_record_0 ?_
    simp only [wp_cons, wp_nil, List.getElem?_cons_zero, List.getElem?_cons_succ, List.set_cons_zero, List.set_cons_succ, s_aload_n0, ldA_r, ldA_n, s_getfield, pR_s, ob_s, gt_s, s_bipush, s_if_icmp_ne, p2_s, true_and, and_true, Nat.le_refl, true_implies, forall_const, not_false_eq_true, false_implies, not_true_eq_false, reduceCtorEq, tl_s, tl_n, rf_s, List.cons_append, List.nil_append, true_or, or_true, hm.c, q2]
    refine b_ne (by omega) (by omega) (fun cc => ?_) (fun cc => absurd cc (by omega))
    exact Mdl_rec_2 d1 _ hm (s := W.1) (Hs := W.2.1) q1 w1 (by omega) q2 q3 w3 (fun h' r' A' hc' hm' d1 d2 d3 d4 => fin h' r' A' _ eH hc' hm' d1 d2 d3 d4)
