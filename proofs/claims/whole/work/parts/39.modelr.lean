/-! ===== the reference: simplifying ===== -/
theorem rpt_no (l : List Int) : ∀ m i, rpt l m i = -6 ↔ ∀ k, i ≤ k → k < i + m → pg l k ≠ pg l (k - 1) := by
  intro m
  induction m with
  | zero => intro i; exact ⟨fun _ k h1 h2 => by omega, fun _ => rfl⟩
  | succ m ih =>
    intro i
    unfold rpt
    by_cases c : pg l i = pg l (i - 1)
    · rw [if_pos c]
      exact ⟨fun q => by omega, fun q => absurd c (q i (Nat.le_refl _) (by omega))⟩
    · rw [if_neg c, ih (i + 1)]
      refine ⟨fun q k h1 h2 => ?_, fun q k h1 h2 => q k (by omega) (by omega)⟩
      by_cases e : k = i
      · rw [e]; exact c
      · exact q k (by omega) (by omega)
theorem rep_no {S : Stk} : rep S = -6 ↔ (∀ k, 1 ≤ k → k < S.1.length → pg S.1 k ≠ pg S.1 (k - 1)) ∧ ¬ (S.2 = true ∧ pg S.1 0 = pg S.1 (S.1.length - 1)) := by
  have h := rpt_no S.1 (S.1.length - 1) 1
  unfold rep
  by_cases c : rpt S.1 (S.1.length - 1) 1 = -6
  · rw [if_pos c]
    have h2 := h.mp c
    by_cases e : S.2 = true ∧ pg S.1 0 = pg S.1 (S.1.length - 1)
    · rw [if_pos e]
      exact ⟨fun q => by omega, fun q => absurd e q.2⟩
    · rw [if_neg e]
      exact ⟨fun _ => ⟨fun k h1 h3 => h2 k h1 (by omega), e⟩, fun _ => rfl⟩
  · rw [if_neg c]
    exact ⟨fun q => absurd q c, fun q => h.mpr (fun k h1 h2 => q.1 k h1 (by omega))⟩
theorem Mdl_smps_c {d M s : Nat} {t : Int} (d5 : 5 ≤ d) {st : Sta} {r0 : Nat → Int} {A0 : Nat → Nat → Int} {h0 : g_H} {Q : g_Po} (hm0 : mdl h0 M r0 A0) (hr0 : stR (A0 1) st) (w : wfL st.1) (wS : wfS (sg st.1 s)) (hs : s < st.1.length) (ht : 0 ≤ t ∧ t ≤ 200)
    (hQ : ∀ h' r' A', chg M (M + 10) h0 h' → mdl h' M r' A' → (∀ n, n ≠ 10 → n ≠ 12 → r' n = r0 n) → (∀ n, n ≠ 6 → n ≠ 7 → n ≠ 8 → n ≠ 9 → A' n = A0 n) → pts r' A' (smpS (sg st.1 s) t).1 → Q none h') : Call Model_simplifies d 0 0 [.ref M, .int (I (s : Int)), .int (I t)] h0 Q := by
  have d1 : 1 ≤ d := by omega
  have w10 := w.1
  obtain ⟨w1, w2, w3, w4, w5⟩ := id wS
  have hne : 0 < (picS (sg st.1 s) t).length := pick_ne _ _ (by simp [levS]; omega) _ (by omega)
  have hle : (picS (sg st.1 s) t).length ≤ (sg st.1 s).1.length := pick_len _ _ _
  have hpt : stP (picS (sg st.1 s) t) := pick_pt _ w3 _ (Nat.le_refl _)
  have last : ∀ (h : g_H) (r : Nat → Int) (A : Nat → Nat → Int) (z : Int) (x4 : Option Value), chg M (M + 10) h0 h → mdl h M r A → (∀ n, n ≠ 10 → n ≠ 12 → r n = r0 n) → (∀ n, n ≠ 6 → n ≠ 7 → n ≠ 8 → n ≠ 9 → A n = A0 n) → pts r A (picS (sg st.1 s) t) → z = 0 ∨ z = 1 → (z = 1 ↔ ((sg st.1 s).2 = true → 3 ≤ (picS (sg st.1 s) t).length ∧ pg (picS (sg st.1 s) t) 0 ≠ pg (picS (sg st.1 s) t) ((picS (sg st.1 s) t).length - 1)) ∧ ∀ k, 1 ≤ k → k < (picS (sg st.1 s) t).length → pg (picS (sg st.1 s) t) k ≠ pg (picS (sg st.1 s) t) (k - 1)) → G Model_simplifies d 0 0 0 0 152 [some (.ref M), some (.int (I (s : Int))), some (.int (I t)), some (.int (I z)), x4] [] h Q := by
    intro h r A z x4 hc hm e1 e2 hp hz hz2
    have hrr : stR (A 1) st := by rw [e2 1 (by omega) (by omega) (by omega) (by omega)]; exact hr0
    unfold smpS at hQ
    rcases hz with rfl | rfl
    · rw [if_pos] at hQ
      · have m2 := hm.f12 0
        refine B_Model_simplifies_152 ?_
        simp only [wp_cons, wp_nil, List.getElem?_cons_zero, List.getElem?_cons_succ, List.set_cons_zero, List.set_cons_succ, s_iload_n3, ldI_s, s_ifCond_ne, p1_s, true_and, and_true, Nat.le_refl, true_implies, forall_const, not_false_eq_true, false_implies, not_true_eq_false, reduceCtorEq, tl_s, tl_n, rf_s, List.cons_append, List.nil_append, true_or, or_true, hm.c, m2.c, Nat.reduceLT, Nat.reduceAdd]
        refine B_Model_simplifies_156 ?_
        simp only [wp_cons, wp_nil, List.getElem?_cons_zero, List.getElem?_cons_succ, List.set_cons_zero, List.set_cons_succ, s_aload_n0, ldA_r, ldA_n, s_iconst, s_putfield, pv_i, pv_z, pv_r, pv_f, ob_s, z_01, z_11, List.length_cons, List.length_nil, s_iload_n1, ldI_s, s_invokevirtual, rc_s, List.drop_succ_cons, List.drop_zero, List.take_succ_cons, List.take_zero, List.reverse_cons, List.reverse_nil, List.nil_append, List.cons_append, d1, Int.reduceToNat, Nat.reduceAdd, Nat.reduceLeDiff, true_and, and_true, Nat.le_refl, true_implies, forall_const, not_false_eq_true, false_implies, not_true_eq_false, reduceCtorEq, tl_s, tl_n, rf_s, true_or, or_true, hm.c, m2.c, Nat.reduceLT]
        refine Mdl_len_c (by omega) m2 hrr w hs ?_
        refine B_Model_simplifies_170 ?_
        simp only [wp_cons, wp_nil, List.getElem?_cons_zero, List.getElem?_cons_succ, List.set_cons_zero, List.set_cons_succ, s_invokevirtual, rc_s, ob_s, List.drop_succ_cons, List.drop_zero, List.take_succ_cons, List.take_zero, List.reverse_cons, List.reverse_nil, List.nil_append, List.cons_append, List.length_cons, List.length_nil, d1, Int.reduceToNat, Nat.reduceAdd, Nat.reduceLeDiff, true_and, and_true, Nat.le_refl, true_implies, forall_const, not_false_eq_true, false_implies, not_true_eq_false, reduceCtorEq, tl_s, tl_n, rf_s, true_or, or_true, hm.c, m2.c, Nat.reduceLT]
        refine Mdl_takes_c (by omega) (c := (sg st.1 s).1.length) (g := pg (sg st.1 s).1) m2 pts.nil (by show 0 + _ ≤ 64; omega) (fun k hk => ⟨34 + 32 * s + k, by omega, by omega, (hrr.2.2.2 s hs).2.2 k (by omega)⟩) (fun h6 r6 A6 c6 m6 e6 e7 p6 => ?_)
        rw [List.nil_append, lf_id] at p6
        refine B_Model_simplifies_173 ?_
        simp only [wp_cons, wp_nil, List.getElem?_cons_zero, List.getElem?_cons_succ, List.set_cons_zero, List.set_cons_succ, s_return_, rt_Model_simplifies, true_and, and_true, Nat.le_refl, true_implies, forall_const, not_false_eq_true, false_implies, not_true_eq_false, reduceCtorEq, tl_s, tl_n, rf_s, List.cons_append, List.nil_append, true_or, or_true, hm.c, m2.c, Nat.reduceLT, Nat.reduceAdd]
        exact hQ h6 r6 A6 ((hc.tr (chg.set _ (by omega))).tr c6) m6 (fun n h1 h2 => by rw [e6 n h2, ui_n _ _ h2, e1 n h1 h2]) (fun n h6 h7 h8 h9 => by rw [e7 n h9, e2 n h6 h7 h8 h9]) p6
      · have q : ¬ (((sg st.1 s).2 = true → 3 ≤ (picS (sg st.1 s) t).length ∧ pg (picS (sg st.1 s) t) 0 ≠ pg (picS (sg st.1 s) t) ((picS (sg st.1 s) t).length - 1)) ∧ ∀ k, 1 ≤ k → k < (picS (sg st.1 s) t).length → pg (picS (sg st.1 s) t) k ≠ pg (picS (sg st.1 s) t) (k - 1)) := fun q => absurd (hz2.mpr q) (by omega)
        by_cases q2 : (sg st.1 s).2 = true ∧ (picS (sg st.1 s) t).length < 3
        · exact Or.inr q2
        · refine Or.inl (fun q3 => q ?_)
          obtain ⟨q4, q5⟩ := rep_no.mp q3
          exact ⟨fun z => ⟨by have : ¬ (picS (sg st.1 s) t).length < 3 := fun y => q2 ⟨z, y⟩
                              omega, fun y => q5 ⟨z, y⟩⟩, q4⟩
    · obtain ⟨q1, q2⟩ := hz2.mp rfl
      rw [if_neg] at hQ
      · refine B_Model_simplifies_152 ?_
        simp only [wp_cons, wp_nil, List.getElem?_cons_zero, List.getElem?_cons_succ, List.set_cons_zero, List.set_cons_succ, s_iload_n3, ldI_s, s_ifCond_ne, p1_s, true_and, and_true, Nat.le_refl, true_implies, forall_const, not_false_eq_true, false_implies, not_true_eq_false, reduceCtorEq, tl_s, tl_n, rf_s, List.cons_append, List.nil_append, true_or, or_true, hm.c]
        refine b_ne (by omega) (by omega) (fun cc => ?_) (fun cc => absurd cc (by omega))
        refine B_Model_simplifies_173 ?_
        simp only [wp_cons, wp_nil, List.getElem?_cons_zero, List.getElem?_cons_succ, List.set_cons_zero, List.set_cons_succ, s_return_, rt_Model_simplifies, true_and, and_true, Nat.le_refl, true_implies, forall_const, not_false_eq_true, false_implies, not_true_eq_false, reduceCtorEq, tl_s, tl_n, rf_s, List.cons_append, List.nil_append, true_or, or_true, hm.c]
        exact hQ h r A hc hm e1 e2 hp
      · rintro (q | ⟨q, q3⟩)
        · exact q (rep_no.mpr ⟨q2, fun y => (q1 y.1).2 y.2⟩)
        · have := (q1 q).1
          omega
  have loop : ∀ (h : g_H) (r : Nat → Int) (A : Nat → Nat → Int), chg M (M + 10) h0 h → mdl h M r A → (∀ n, n ≠ 10 → n ≠ 12 → r n = r0 n) → (∀ n, n ≠ 6 → n ≠ 7 → n ≠ 8 → n ≠ 9 → A n = A0 n) → pts r A (picS (sg st.1 s) t) → ∀ (m k : Nat) (z : Int), k + m = (picS (sg st.1 s) t).length → 1 ≤ k → z = 0 ∨ z = 1 → (z = 1 ↔ ((sg st.1 s).2 = true → 3 ≤ (picS (sg st.1 s) t).length ∧ pg (picS (sg st.1 s) t) 0 ≠ pg (picS (sg st.1 s) t) ((picS (sg st.1 s) t).length - 1)) ∧ ∀ j, 1 ≤ j → j < k → pg (picS (sg st.1 s) t) j ≠ pg (picS (sg st.1 s) t) (j - 1)) → G Model_simplifies d 0 0 0 0 108 [some (.ref M), some (.int (I (s : Int))), some (.int (I t)), some (.int (I z)), some (.int (I (k : Int)))] [] h Q := by
    intro h r A hc hm e1 e2 hp m
    obtain ⟨p1, p2, p3⟩ := id hp
    induction m with
    | zero =>
      intro k z hk h1 hz hz2
      refine B_Model_simplifies_108 ?_
      simp only [wp_cons, wp_nil, List.getElem?_cons_zero, List.getElem?_cons_succ, List.set_cons_zero, List.set_cons_succ, s_iload, ldI_s, s_aload_n0, ldA_r, ldA_n, s_getfield, pR_s, ob_s, gt_s, s_if_icmp_ge, p2_s, true_and, and_true, Nat.le_refl, true_implies, forall_const, not_false_eq_true, false_implies, not_true_eq_false, reduceCtorEq, tl_s, tl_n, rf_s, List.cons_append, List.nil_append, true_or, or_true, hm.c, p1]
      refine b_le (by omega) (by omega) (fun cc => ?_) (fun cc => absurd cc (by omega))
      obtain rfl : k = (picS (sg st.1 s) t).length := by omega
      exact last h r A z _ hc hm e1 e2 hp hz hz2
    | succ m ih =>
      intro k z hk h1 hz hz2
      have b1 := hpt k (by omega)
      have b2 := hpt (k - 1) (by omega)
      have a1 := p3 k (by omega)
      have a2 := p3 (k - 1) (by omega)
      have step : ∀ z2 : Int, z2 = 0 ∨ z2 = 1 → (z2 = 1 ↔ z = 1 ∧ pg (picS (sg st.1 s) t) k ≠ pg (picS (sg st.1 s) t) (k - 1)) → G Model_simplifies d 0 0 0 0 145 [some (.ref M), some (.int (I (s : Int))), some (.int (I t)), some (.int (I z)), some (.int (I (k : Int)))] [.int (I z2)] h Q := by
        intro z2 hz3 hz4
        refine B_Model_simplifies_145 ?_
        simp only [wp_cons, wp_nil, List.getElem?_cons_zero, List.getElem?_cons_succ, List.set_cons_zero, List.set_cons_succ, s_istore_n3, p1_s, s1_0, s1_s, kx_i, kx_r, kx_n, kx_l, kx_0, s_iinc, ldI_s, I_add, s_goto, true_and, and_true, Nat.le_refl, true_implies, forall_const, not_false_eq_true, false_implies, not_true_eq_false, reduceCtorEq, tl_s, tl_n, rf_s, List.cons_append, List.nil_append, true_or, or_true, hm.c]
        refine ih (k + 1) z2 (by omega) (by omega) hz3 ?_
        rw [hz4, hz2]
        refine ⟨fun q => ⟨q.1.1, fun j h1 h2 => ?_⟩, fun q => ⟨⟨q.1, fun j h1 h2 => q.2 j h1 (by omega)⟩, q.2 k h1 (by omega)⟩⟩
        by_cases e : j = k
        · rw [e]; exact q.2
        · exact q.1.2 j h1 (by omega)
      refine B_Model_simplifies_108 ?_
      simp only [wp_cons, wp_nil, List.getElem?_cons_zero, List.getElem?_cons_succ, List.set_cons_zero, List.set_cons_succ, s_iload, ldI_s, s_aload_n0, ldA_r, ldA_n, s_getfield, pR_s, ob_s, gt_s, s_if_icmp_ge, p2_s, true_and, and_true, Nat.le_refl, true_implies, forall_const, not_false_eq_true, false_implies, not_true_eq_false, reduceCtorEq, tl_s, tl_n, rf_s, List.cons_append, List.nil_append, true_or, or_true, hm.c, hm.g9, p1, a1, a2, ex_ix (i := k) (n := 64) (by omega), ex_ie (x := (k : Int) - 1) (i := k - 1) (n := 64) (by omega) (by omega)]
      refine b_le (by omega) (by omega) (fun cc => absurd cc (by omega)) (fun cc => ?_)
      rcases hz with rfl | rfl
      · refine B_Model_simplifies_117 ?_
        simp only [wp_cons, wp_nil, List.getElem?_cons_zero, List.getElem?_cons_succ, List.set_cons_zero, List.set_cons_succ, s_iload_n3, ldI_s, s_ifCond_eq, p1_s, true_and, and_true, Nat.le_refl, true_implies, forall_const, not_false_eq_true, false_implies, not_true_eq_false, reduceCtorEq, tl_s, tl_n, rf_s, List.cons_append, List.nil_append, true_or, or_true, hm.c, hm.g9, p1, a1, a2, ex_ix (i := k) (n := 64) (by omega), ex_ie (x := (k : Int) - 1) (i := k - 1) (n := 64) (by omega) (by omega)]
        refine B_Model_simplifies_144 ?_
        simp only [wp_cons, wp_nil, List.getElem?_cons_zero, List.getElem?_cons_succ, List.set_cons_zero, List.set_cons_succ, s_iconst, true_and, and_true, Nat.le_refl, true_implies, forall_const, not_false_eq_true, false_implies, not_true_eq_false, reduceCtorEq, tl_s, tl_n, rf_s, List.cons_append, List.nil_append, true_or, or_true, hm.c, hm.g9, p1, a1, a2, ex_ix (i := k) (n := 64) (by omega), ex_ie (x := (k : Int) - 1) (i := k - 1) (n := 64) (by omega) (by omega)]
        exact step 0 (Or.inl rfl) ⟨fun q => absurd q (by omega), fun q => absurd q.1 (by omega)⟩
      · refine B_Model_simplifies_117 ?_
        simp only [wp_cons, wp_nil, List.getElem?_cons_zero, List.getElem?_cons_succ, List.set_cons_zero, List.set_cons_succ, s_iload_n3, ldI_s, s_ifCond_eq, p1_s, true_and, and_true, Nat.le_refl, true_implies, forall_const, not_false_eq_true, false_implies, not_true_eq_false, reduceCtorEq, tl_s, tl_n, rf_s, List.cons_append, List.nil_append, true_or, or_true, hm.c, hm.g9, p1, a1, a2, ex_ix (i := k) (n := 64) (by omega), ex_ie (x := (k : Int) - 1) (i := k - 1) (n := 64) (by omega) (by omega)]
        refine b_eq (by omega) (by omega) (fun c0 => absurd c0 (by omega)) (fun _ => ?_)
        refine B_Model_simplifies_121 ?_
        simp only [wp_cons, wp_nil, List.getElem?_cons_zero, List.getElem?_cons_succ, List.set_cons_zero, List.set_cons_succ, s_aload_n0, ldA_r, ldA_n, s_getfield, pR_s, ob_s, gt_s, s_iload, ldI_s, s_iaload, iR_s, ia_s, s_iconst, s_isub, p2_s, I_sub, s_if_icmp_eq, true_and, and_true, Nat.le_refl, true_implies, forall_const, not_false_eq_true, false_implies, not_true_eq_false, reduceCtorEq, tl_s, tl_n, rf_s, List.cons_append, List.nil_append, true_or, or_true, hm.c, hm.g9, p1, a1, a2, ex_ix (i := k) (n := 64) (by omega), ex_ie (x := (k : Int) - 1) (i := k - 1) (n := 64) (by omega) (by omega)]
        refine b_eq (by omega) (by omega) (fun cc => ?_) (fun cc => ?_)
        · refine B_Model_simplifies_144 ?_
          simp only [wp_cons, wp_nil, List.getElem?_cons_zero, List.getElem?_cons_succ, List.set_cons_zero, List.set_cons_succ, s_iconst, true_and, and_true, Nat.le_refl, true_implies, forall_const, not_false_eq_true, false_implies, not_true_eq_false, reduceCtorEq, tl_s, tl_n, rf_s, List.cons_append, List.nil_append, true_or, or_true, hm.c, hm.g9, p1, a1, a2, ex_ix (i := k) (n := 64) (by omega), ex_ie (x := (k : Int) - 1) (i := k - 1) (n := 64) (by omega) (by omega)]
          exact step 0 (Or.inl rfl) ⟨fun q => absurd q (by omega), fun q => absurd cc q.2⟩
        · refine B_Model_simplifies_140 ?_
          simp only [wp_cons, wp_nil, List.getElem?_cons_zero, List.getElem?_cons_succ, List.set_cons_zero, List.set_cons_succ, s_iconst, s_goto, true_and, and_true, Nat.le_refl, true_implies, forall_const, not_false_eq_true, false_implies, not_true_eq_false, reduceCtorEq, tl_s, tl_n, rf_s, List.cons_append, List.nil_append, true_or, or_true, hm.c, hm.g9, p1, a1, a2, ex_ix (i := k) (n := 64) (by omega), ex_ie (x := (k : Int) - 1) (i := k - 1) (n := 64) (by omega) (by omega)]
          exact step 1 (Or.inr rfl) ⟨fun _ => ⟨rfl, cc⟩, fun _ => rfl⟩
  have mid : ∀ (h : g_H) (r : Nat → Int) (A : Nat → Nat → Int) (x3 x4 : Option Value), chg M (M + 10) h0 h → mdl h M r A → (∀ n, n ≠ 10 → n ≠ 12 → r n = r0 n) → (∀ n, n ≠ 6 → n ≠ 7 → n ≠ 8 → n ≠ 9 → A n = A0 n) → pts r A (picS (sg st.1 s) t) → G Model_simplifies d 0 0 0 0 63 [some (.ref M), some (.int (I (s : Int))), some (.int (I t)), x3, x4] [] h Q := by
    intro h r A x3 x4 hc hm e1 e2 hp
    obtain ⟨p1, p2, p3⟩ := id hp
    have hrr : stR (A 1) st := by rw [e2 1 (by omega) (by omega) (by omega) (by omega)]; exact hr0
    have b1 := hpt 0 (by omega)
    have b2 := hpt ((picS (sg st.1 s) t).length - 1) (by omega)
    have a1 := p3 0 (by omega)
    have a2 := p3 ((picS (sg st.1 s) t).length - 1) (by omega)
    have good : ∀ z : Int, z = 0 ∨ z = 1 → (z = 1 ↔ ((sg st.1 s).2 = true → 3 ≤ (picS (sg st.1 s) t).length ∧ pg (picS (sg st.1 s) t) 0 ≠ pg (picS (sg st.1 s) t) ((picS (sg st.1 s) t).length - 1))) → G Model_simplifies d 0 0 0 0 104 [some (.ref M), some (.int (I (s : Int))), some (.int (I t)), x3, x4] [.int (I z)] h Q := by
      intro z hz hz2
      refine B_Model_simplifies_104 ?_
      simp only [wp_cons, wp_nil, List.getElem?_cons_zero, List.getElem?_cons_succ, List.set_cons_zero, List.set_cons_succ, s_istore_n3, p1_s, s1_0, s1_s, kx_i, kx_r, kx_n, kx_l, kx_0, s_iconst, s_istore, true_and, and_true, Nat.le_refl, true_implies, forall_const, not_false_eq_true, false_implies, not_true_eq_false, reduceCtorEq, tl_s, tl_n, rf_s, List.cons_append, List.nil_append, true_or, or_true, hm.c]
      exact loop h r A hc hm e1 e2 hp ((picS (sg st.1 s) t).length - 1) 1 z (by omega) (by omega) hz (by rw [hz2]; exact ⟨fun q => ⟨q, fun j h1 h2 => by omega⟩, fun q => q.1⟩)
    refine B_Model_simplifies_63 ?_
    simp only [wp_cons, wp_nil, List.getElem?_cons_zero, List.getElem?_cons_succ, List.set_cons_zero, List.set_cons_succ, s_aload_n0, ldA_r, ldA_n, s_iload_n1, ldI_s, s_invokevirtual, rc_s, ob_s, List.drop_succ_cons, List.drop_zero, List.take_succ_cons, List.take_zero, List.reverse_cons, List.reverse_nil, List.nil_append, List.cons_append, List.length_cons, List.length_nil, d1, Int.reduceToNat, Nat.reduceAdd, Nat.reduceLeDiff, true_and, and_true, Nat.le_refl, true_implies, forall_const, not_false_eq_true, false_implies, not_true_eq_false, reduceCtorEq, tl_s, tl_n, rf_s, true_or, or_true, hm.c, hm.g9, p1, a1, a2, ex_ie (x := 0) (i := 0) (n := 64) rfl (by omega), ex_ie (x := ((picS (sg st.1 s) t).length : Int) - 1) (i := (picS (sg st.1 s) t).length - 1) (n := 64) (by omega) (by omega)]
    refine Mdl_clo_c (by omega) hm hrr w hs ?_
    cases z : (sg st.1 s).2 with
    | false =>
      rw [z] at good
      rw [show sz false = 0 from rfl]
      refine B_Model_simplifies_68 ?_
      simp only [wp_cons, wp_nil, List.getElem?_cons_zero, List.getElem?_cons_succ, List.set_cons_zero, List.set_cons_succ, s_ifCond_eq, p1_s, true_and, and_true, Nat.le_refl, true_implies, forall_const, not_false_eq_true, false_implies, not_true_eq_false, reduceCtorEq, tl_s, tl_n, rf_s, List.cons_append, List.nil_append, true_or, or_true, hm.c, hm.g9, p1, a1, a2, ex_ie (x := 0) (i := 0) (n := 64) rfl (by omega), ex_ie (x := ((picS (sg st.1 s) t).length : Int) - 1) (i := (picS (sg st.1 s) t).length - 1) (n := 64) (by omega) (by omega)]
      refine B_Model_simplifies_99 ?_
      simp only [wp_cons, wp_nil, List.getElem?_cons_zero, List.getElem?_cons_succ, List.set_cons_zero, List.set_cons_succ, s_iconst, s_goto, true_and, and_true, Nat.le_refl, true_implies, forall_const, not_false_eq_true, false_implies, not_true_eq_false, reduceCtorEq, tl_s, tl_n, rf_s, List.cons_append, List.nil_append, true_or, or_true, hm.c, hm.g9, p1, a1, a2, ex_ie (x := 0) (i := 0) (n := 64) rfl (by omega), ex_ie (x := ((picS (sg st.1 s) t).length : Int) - 1) (i := (picS (sg st.1 s) t).length - 1) (n := 64) (by omega) (by omega)]
      exact good 1 (Or.inr rfl) ⟨fun _ q => absurd q (by decide), fun _ => rfl⟩
    | true =>
      rw [z] at good
      rw [show sz true = 1 from rfl]
      refine B_Model_simplifies_68 ?_
      simp only [wp_cons, wp_nil, List.getElem?_cons_zero, List.getElem?_cons_succ, List.set_cons_zero, List.set_cons_succ, s_ifCond_eq, p1_s, true_and, and_true, Nat.le_refl, true_implies, forall_const, not_false_eq_true, false_implies, not_true_eq_false, reduceCtorEq, tl_s, tl_n, rf_s, List.cons_append, List.nil_append, true_or, or_true, hm.c, hm.g9, p1, a1, a2, ex_ie (x := 0) (i := 0) (n := 64) rfl (by omega), ex_ie (x := ((picS (sg st.1 s) t).length : Int) - 1) (i := (picS (sg st.1 s) t).length - 1) (n := 64) (by omega) (by omega)]
      refine b_eq (by omega) (by omega) (fun cc => absurd cc (by omega)) (fun _ => ?_)
      refine B_Model_simplifies_71 ?_
      simp only [wp_cons, wp_nil, List.getElem?_cons_zero, List.getElem?_cons_succ, List.set_cons_zero, List.set_cons_succ, s_aload_n0, ldA_r, ldA_n, s_getfield, pR_s, ob_s, gt_s, s_iconst, s_if_icmp_lt, p2_s, true_and, and_true, Nat.le_refl, true_implies, forall_const, not_false_eq_true, false_implies, not_true_eq_false, reduceCtorEq, tl_s, tl_n, rf_s, List.cons_append, List.nil_append, true_or, or_true, hm.c, hm.g9, p1, a1, a2, ex_ie (x := 0) (i := 0) (n := 64) rfl (by omega), ex_ie (x := ((picS (sg st.1 s) t).length : Int) - 1) (i := (picS (sg st.1 s) t).length - 1) (n := 64) (by omega) (by omega)]
      refine b_lt (by omega) (by omega) (fun cc => ?_) (fun cc => ?_)
      · refine B_Model_simplifies_103 ?_
        simp only [wp_cons, wp_nil, List.getElem?_cons_zero, List.getElem?_cons_succ, List.set_cons_zero, List.set_cons_succ, s_iconst, true_and, and_true, Nat.le_refl, true_implies, forall_const, not_false_eq_true, false_implies, not_true_eq_false, reduceCtorEq, tl_s, tl_n, rf_s, List.cons_append, List.nil_append, true_or, or_true, hm.c, hm.g9, p1, a1, a2, ex_ie (x := 0) (i := 0) (n := 64) rfl (by omega), ex_ie (x := ((picS (sg st.1 s) t).length : Int) - 1) (i := (picS (sg st.1 s) t).length - 1) (n := 64) (by omega) (by omega)]
        exact good 0 (Or.inl rfl) ⟨fun q => absurd q (by omega), fun q => by have := (q rfl).1; omega⟩
      · refine B_Model_simplifies_79 ?_
        simp only [wp_cons, wp_nil, List.getElem?_cons_zero, List.getElem?_cons_succ, List.set_cons_zero, List.set_cons_succ, s_aload_n0, ldA_r, ldA_n, s_getfield, pR_s, ob_s, gt_s, s_iconst, s_iaload, iR_s, ia_s, s_isub, p2_s, I_sub, s_if_icmp_eq, true_and, and_true, Nat.le_refl, true_implies, forall_const, not_false_eq_true, false_implies, not_true_eq_false, reduceCtorEq, tl_s, tl_n, rf_s, List.cons_append, List.nil_append, true_or, or_true, hm.c, hm.g9, p1, a1, a2, ex_ie (x := 0) (i := 0) (n := 64) rfl (by omega), ex_ie (x := ((picS (sg st.1 s) t).length : Int) - 1) (i := (picS (sg st.1 s) t).length - 1) (n := 64) (by omega) (by omega)]
        refine b_eq (by omega) (by omega) (fun c2 => ?_) (fun c2 => ?_)
        · refine B_Model_simplifies_103 ?_
          simp only [wp_cons, wp_nil, List.getElem?_cons_zero, List.getElem?_cons_succ, List.set_cons_zero, List.set_cons_succ, s_iconst, true_and, and_true, Nat.le_refl, true_implies, forall_const, not_false_eq_true, false_implies, not_true_eq_false, reduceCtorEq, tl_s, tl_n, rf_s, List.cons_append, List.nil_append, true_or, or_true, hm.c, hm.g9, p1, a1, a2, ex_ie (x := 0) (i := 0) (n := 64) rfl (by omega), ex_ie (x := ((picS (sg st.1 s) t).length : Int) - 1) (i := (picS (sg st.1 s) t).length - 1) (n := 64) (by omega) (by omega)]
          exact good 0 (Or.inl rfl) ⟨fun q => absurd q (by omega), fun q => absurd c2 (q rfl).2⟩
        · refine B_Model_simplifies_99 ?_
          simp only [wp_cons, wp_nil, List.getElem?_cons_zero, List.getElem?_cons_succ, List.set_cons_zero, List.set_cons_succ, s_iconst, s_goto, true_and, and_true, Nat.le_refl, true_implies, forall_const, not_false_eq_true, false_implies, not_true_eq_false, reduceCtorEq, tl_s, tl_n, rf_s, List.cons_append, List.nil_append, true_or, or_true, hm.c, hm.g9, p1, a1, a2, ex_ie (x := 0) (i := 0) (n := 64) rfl (by omega), ex_ie (x := ((picS (sg st.1 s) t).length : Int) - 1) (i := (picS (sg st.1 s) t).length - 1) (n := 64) (by omega) (by omega)]
          exact good 1 (Or.inr rfl) ⟨fun _ _ => ⟨by omega, c2⟩, fun _ => rfl⟩
  have take : ∀ (A1 : Nat → Nat → Int), (∀ k, k < (sg st.1 s).1.length → A1 6 k = kf t (levS (sg st.1 s) k)) → (∀ n, n ≠ 6 → n ≠ 7 → n ≠ 8 → A1 n = A0 n) → ∀ (m k : Nat) (h : g_H) (r : Nat → Int) (A : Nat → Nat → Int) (x4 : Option Value), k + m = (sg st.1 s).1.length → chg M (M + 10) h0 h → mdl h M r A → (∀ n, n ≠ 10 → n ≠ 12 → r n = r0 n) → (∀ n, n ≠ 9 → A n = A1 n) → pts r A (pick (fun i => decide (t ≤ levS (sg st.1 s) i)) (sg st.1 s).1 k) → G Model_simplifies d 0 0 0 0 13 [some (.ref M), some (.int (I (s : Int))), some (.int (I t)), some (.int (I (k : Int))), x4] [] h Q := by
    intro A1 h6 h678 m
    induction m with
    | zero =>
      intro k h r A x4 hk hc hm e1 e2 hp
      have hrr : stR (A 1) st := by rw [e2 1 (by omega), h678 1 (by omega) (by omega) (by omega)]; exact hr0
      obtain rfl : k = (sg st.1 s).1.length := by omega
      refine B_Model_simplifies_13 ?_
      simp only [wp_cons, wp_nil, List.getElem?_cons_zero, List.getElem?_cons_succ, List.set_cons_zero, List.set_cons_succ, s_iload_n3, ldI_s, s_aload_n0, ldA_r, ldA_n, s_iload_n1, s_invokevirtual, rc_s, ob_s, List.drop_succ_cons, List.drop_zero, List.take_succ_cons, List.take_zero, List.reverse_cons, List.reverse_nil, List.nil_append, List.cons_append, List.length_cons, List.length_nil, d1, Int.reduceToNat, Nat.reduceAdd, Nat.reduceLeDiff, true_and, and_true, Nat.le_refl, true_implies, forall_const, not_false_eq_true, false_implies, not_true_eq_false, reduceCtorEq, tl_s, tl_n, rf_s, true_or, or_true, hm.c]
      refine Mdl_len_c (by omega) hm hrr w hs ?_
      refine B_Model_simplifies_19 ?_
      simp only [wp_cons, wp_nil, List.getElem?_cons_zero, List.getElem?_cons_succ, List.set_cons_zero, List.set_cons_succ, s_if_icmp_ge, p2_s, true_and, and_true, Nat.le_refl, true_implies, forall_const, not_false_eq_true, false_implies, not_true_eq_false, reduceCtorEq, tl_s, tl_n, rf_s, List.cons_append, List.nil_append, true_or, or_true, hm.c]
      refine b_le (by omega) (by omega) (fun cc => ?_) (fun cc => absurd cc (by omega))
      exact mid h r A _ _ hc hm e1 (fun n h6 h7 h8 h9 => by rw [e2 n h9, h678 n h6 h7 h8]) hp
    | succ m ih =>
      intro k h r A x4 hk hc hm e1 e2 hp
      have hrr : stR (A 1) st := by rw [e2 1 (by omega), h678 1 (by omega) (by omega) (by omega)]; exact hr0
      obtain ⟨p1, p2, p3⟩ := id hp
      have hl := pick_len (fun i => decide (t ≤ levS (sg st.1 s) i)) (sg st.1 s).1 k
      have e6 : A 6 k = kf t (levS (sg st.1 s) k) := by rw [e2 6 (by omega), h6 k (by omega)]
      have hp2 : pick (fun i => decide (t ≤ levS (sg st.1 s) i)) (sg st.1 s).1 (k + 1) = pick (fun i => decide (t ≤ levS (sg st.1 s) i)) (sg st.1 s).1 k ++ (if t ≤ levS (sg st.1 s) k then [pg (sg st.1 s).1 k] else []) := by
        show _ ++ _ = _
        by_cases c : t ≤ levS (sg st.1 s) k
        · rw [if_pos c, if_pos (by simpa using c)]
        · rw [if_neg c, if_neg (by simpa using c)]
      by_cases c : t ≤ levS (sg st.1 s) k
      · rw [if_pos c] at hp2
        unfold kf at e6
        rw [if_pos c] at e6
        have m9 := hm.a9 (pick (fun i => decide (t ≤ levS (sg st.1 s) i)) (sg st.1 s).1 k).length (pg (sg st.1 s).1 k)
        have m12 := m9.f12 (((pick (fun i => decide (t ≤ levS (sg st.1 s) i)) (sg st.1 s).1 k).length : Int) + 1)
        refine B_Model_simplifies_13 ?_
        simp only [wp_cons, wp_nil, List.getElem?_cons_zero, List.getElem?_cons_succ, List.set_cons_zero, List.set_cons_succ, s_iload_n3, ldI_s, s_aload_n0, ldA_r, ldA_n, s_iload_n1, s_invokevirtual, rc_s, ob_s, List.drop_succ_cons, List.drop_zero, List.take_succ_cons, List.take_zero, List.reverse_cons, List.reverse_nil, List.nil_append, List.cons_append, List.length_cons, List.length_nil, d1, Int.reduceToNat, Nat.reduceAdd, Nat.reduceLeDiff, true_and, and_true, Nat.le_refl, true_implies, forall_const, not_false_eq_true, false_implies, not_true_eq_false, reduceCtorEq, tl_s, tl_n, rf_s, true_or, or_true, hm.c, hm.g6, hm.g9, m9.c, p1, e6, upd_ui, ex_ix (i := k) (n := 31) (by omega), ex_iy (i := k) (n := 31) (by omega), ex_ix (i := (pick (fun i => decide (t ≤ levS (sg st.1 s) i)) (sg st.1 s).1 k).length) (n := 64) (by omega), ex_iy (i := (pick (fun i => decide (t ≤ levS (sg st.1 s) i)) (sg st.1 s).1 k).length) (n := 64) (by omega), Nat.reduceLT]
        refine Mdl_len_c (by omega) hm hrr w hs ?_
        refine B_Model_simplifies_19 ?_
        simp only [wp_cons, wp_nil, List.getElem?_cons_zero, List.getElem?_cons_succ, List.set_cons_zero, List.set_cons_succ, s_if_icmp_ge, p2_s, true_and, and_true, Nat.le_refl, true_implies, forall_const, not_false_eq_true, false_implies, not_true_eq_false, reduceCtorEq, tl_s, tl_n, rf_s, List.cons_append, List.nil_append, true_or, or_true, hm.c, hm.g6, hm.g9, m9.c, p1, e6, upd_ui, ex_ix (i := k) (n := 31) (by omega), ex_iy (i := k) (n := 31) (by omega), ex_ix (i := (pick (fun i => decide (t ≤ levS (sg st.1 s) i)) (sg st.1 s).1 k).length) (n := 64) (by omega), ex_iy (i := (pick (fun i => decide (t ≤ levS (sg st.1 s) i)) (sg st.1 s).1 k).length) (n := 64) (by omega), Nat.reduceLT, Nat.reduceAdd]
        refine b_le (by omega) (by omega) (fun cc => absurd cc (by omega)) (fun cc => ?_)
        refine B_Model_simplifies_22 ?_
        simp only [wp_cons, wp_nil, List.getElem?_cons_zero, List.getElem?_cons_succ, List.set_cons_zero, List.set_cons_succ, s_aload_n0, ldA_r, ldA_n, s_getfield, pR_s, ob_s, gt_s, s_iload_n3, ldI_s, s_iaload, iR_s, ia_s, s_iconst, s_if_icmp_ne, p2_s, true_and, and_true, Nat.le_refl, true_implies, forall_const, not_false_eq_true, false_implies, not_true_eq_false, reduceCtorEq, tl_s, tl_n, rf_s, List.cons_append, List.nil_append, true_or, or_true, hm.c, hm.g6, hm.g9, m9.c, p1, e6, upd_ui, ex_ix (i := k) (n := 31) (by omega), ex_iy (i := k) (n := 31) (by omega), ex_ix (i := (pick (fun i => decide (t ≤ levS (sg st.1 s) i)) (sg st.1 s).1 k).length) (n := 64) (by omega), ex_iy (i := (pick (fun i => decide (t ≤ levS (sg st.1 s) i)) (sg st.1 s).1 k).length) (n := 64) (by omega), Nat.reduceLT, Nat.reduceAdd]
        refine B_Model_simplifies_32 ?_
        simp only [wp_cons, wp_nil, List.getElem?_cons_zero, List.getElem?_cons_succ, List.set_cons_zero, List.set_cons_succ, s_aload_n0, ldA_r, ldA_n, s_getfield, pR_s, ob_s, gt_s, s_iload_n1, ldI_s, s_iload_n3, s_invokevirtual, rc_s, List.drop_succ_cons, List.drop_zero, List.take_succ_cons, List.take_zero, List.reverse_cons, List.reverse_nil, List.nil_append, List.cons_append, List.length_cons, List.length_nil, d1, Int.reduceToNat, Nat.reduceAdd, Nat.reduceLeDiff, true_and, and_true, Nat.le_refl, true_implies, forall_const, not_false_eq_true, false_implies, not_true_eq_false, reduceCtorEq, tl_s, tl_n, rf_s, true_or, or_true, hm.c, hm.g6, hm.g9, m9.c, p1, e6, upd_ui, ex_ix (i := k) (n := 31) (by omega), ex_iy (i := k) (n := 31) (by omega), ex_ix (i := (pick (fun i => decide (t ≤ levS (sg st.1 s) i)) (sg st.1 s).1 k).length) (n := 64) (by omega), ex_iy (i := (pick (fun i => decide (t ≤ levS (sg st.1 s) i)) (sg st.1 s).1 k).length) (n := 64) (by omega), Nat.reduceLT]
        refine Mdl_pAt_c (by omega) hm hrr w hs (by omega) ?_
        refine B_Model_simplifies_46 ?_
        simp only [wp_cons, wp_nil, List.getElem?_cons_zero, List.getElem?_cons_succ, List.set_cons_zero, List.set_cons_succ, s_iastore, iiR_s, ia_s, s_aload_n0, ldA_r, ldA_n, s_dup, p1v_i, p1v_r, s_getfield, pR_s, ob_s, gt_s, s_iconst, s_iadd, p2_s, I_add, s_putfield, pv_i, pv_z, pv_r, pv_f, z_01, z_11, List.length_cons, List.length_nil, true_and, and_true, Nat.le_refl, true_implies, forall_const, not_false_eq_true, false_implies, not_true_eq_false, reduceCtorEq, tl_s, tl_n, rf_s, List.cons_append, List.nil_append, true_or, or_true, hm.c, hm.g6, hm.g9, m9.c, p1, e6, upd_ui, ex_ix (i := k) (n := 31) (by omega), ex_iy (i := k) (n := 31) (by omega), ex_ix (i := (pick (fun i => decide (t ≤ levS (sg st.1 s) i)) (sg st.1 s).1 k).length) (n := 64) (by omega), ex_iy (i := (pick (fun i => decide (t ≤ levS (sg st.1 s) i)) (sg st.1 s).1 k).length) (n := 64) (by omega), Nat.reduceLT, Nat.reduceAdd]
        refine B_Model_simplifies_57 ?_
        simp only [wp_cons, wp_nil, List.getElem?_cons_zero, List.getElem?_cons_succ, List.set_cons_zero, List.set_cons_succ, s_iinc, ldI_s, s1_0, s1_s, kx_i, kx_r, kx_n, kx_l, kx_0, I_add, s_goto, true_and, and_true, Nat.le_refl, true_implies, forall_const, not_false_eq_true, false_implies, not_true_eq_false, reduceCtorEq, tl_s, tl_n, rf_s, List.cons_append, List.nil_append, true_or, or_true, hm.c, hm.g6, hm.g9, m9.c, p1, e6, upd_ui, ex_ix (i := k) (n := 31) (by omega), ex_iy (i := k) (n := 31) (by omega), ex_ix (i := (pick (fun i => decide (t ≤ levS (sg st.1 s) i)) (sg st.1 s).1 k).length) (n := 64) (by omega), ex_iy (i := (pick (fun i => decide (t ≤ levS (sg st.1 s) i)) (sg st.1 s).1 k).length) (n := 64) (by omega), Nat.reduceLT, Nat.reduceAdd]
        refine ih (k + 1) _ _ _ _ (by omega) ((hc.tr (chg.set _ (by omega))).tr (chg.set _ (by omega))) m12 (fun n h1 h2 => by rw [ui_n _ _ h2, e1 n h1 h2]) (fun n h9 => by rw [ua_n _ _ _ h9, e2 n h9]) ?_
        rw [hp2]
        refine ⟨by rw [ui_s, List.length_append]; rfl, by rw [List.length_append]; show _ + 1 ≤ 64; omega, fun i hi => ?_⟩
        rw [List.length_append] at hi
        replace hi : i < (pick (fun i => decide (t ≤ levS (sg st.1 s) i)) (sg st.1 s).1 k).length + 1 := hi
        rw [ua_s]
        by_cases e : i = (pick (fun i => decide (t ≤ levS (sg st.1 s) i)) (sg st.1 s).1 k).length
        · rw [e, ui_s, pg_app_r _ _ (Nat.le_refl _), Nat.sub_self]; rfl
        · rw [ui_n _ _ e, pg_app_l _ _ (by omega), p3 i (by omega)]
      · rw [if_neg c, List.append_nil] at hp2
        unfold kf at e6
        rw [if_neg c] at e6
        refine B_Model_simplifies_13 ?_
        simp only [wp_cons, wp_nil, List.getElem?_cons_zero, List.getElem?_cons_succ, List.set_cons_zero, List.set_cons_succ, s_iload_n3, ldI_s, s_aload_n0, ldA_r, ldA_n, s_iload_n1, s_invokevirtual, rc_s, ob_s, List.drop_succ_cons, List.drop_zero, List.take_succ_cons, List.take_zero, List.reverse_cons, List.reverse_nil, List.nil_append, List.cons_append, List.length_cons, List.length_nil, d1, Int.reduceToNat, Nat.reduceAdd, Nat.reduceLeDiff, true_and, and_true, Nat.le_refl, true_implies, forall_const, not_false_eq_true, false_implies, not_true_eq_false, reduceCtorEq, tl_s, tl_n, rf_s, true_or, or_true, hm.c, hm.g6, p1, e6, ex_ix (i := k) (n := 31) (by omega)]
        refine Mdl_len_c (by omega) hm hrr w hs ?_
        refine B_Model_simplifies_19 ?_
        simp only [wp_cons, wp_nil, List.getElem?_cons_zero, List.getElem?_cons_succ, List.set_cons_zero, List.set_cons_succ, s_if_icmp_ge, p2_s, true_and, and_true, Nat.le_refl, true_implies, forall_const, not_false_eq_true, false_implies, not_true_eq_false, reduceCtorEq, tl_s, tl_n, rf_s, List.cons_append, List.nil_append, true_or, or_true, hm.c, hm.g6, p1, e6, ex_ix (i := k) (n := 31) (by omega)]
        refine b_le (by omega) (by omega) (fun cc => absurd cc (by omega)) (fun cc => ?_)
        refine B_Model_simplifies_22 ?_
        simp only [wp_cons, wp_nil, List.getElem?_cons_zero, List.getElem?_cons_succ, List.set_cons_zero, List.set_cons_succ, s_aload_n0, ldA_r, ldA_n, s_getfield, pR_s, ob_s, gt_s, s_iload_n3, ldI_s, s_iaload, iR_s, ia_s, s_iconst, s_if_icmp_ne, p2_s, true_and, and_true, Nat.le_refl, true_implies, forall_const, not_false_eq_true, false_implies, not_true_eq_false, reduceCtorEq, tl_s, tl_n, rf_s, List.cons_append, List.nil_append, true_or, or_true, hm.c, hm.g6, p1, e6, ex_ix (i := k) (n := 31) (by omega)]
        refine b_ne (by omega) (by omega) (fun cc => ?_) (fun cc => absurd cc (by omega))
        refine B_Model_simplifies_57 ?_
        simp only [wp_cons, wp_nil, List.getElem?_cons_zero, List.getElem?_cons_succ, List.set_cons_zero, List.set_cons_succ, s_iinc, ldI_s, s1_0, s1_s, kx_i, kx_r, kx_n, kx_l, kx_0, I_add, s_goto, true_and, and_true, Nat.le_refl, true_implies, forall_const, not_false_eq_true, false_implies, not_true_eq_false, reduceCtorEq, tl_s, tl_n, rf_s, List.cons_append, List.nil_append, true_or, or_true, hm.c, hm.g6, p1, e6, ex_ix (i := k) (n := 31) (by omega)]
        exact ih (k + 1) h r A _ (by omega) hc hm e1 e2 (by rw [hp2]; exact hp)
  refine Call.intro (by rfl) (Nat.le_of_ble_eq_true rfl) ?_
  refine G.eqL (L := [some (.ref _), some (.int _), some (.int _), none, none]) rfl ?_
  refine B_Model_simplifies_0 ?_
  simp only [wp_cons, wp_nil, List.getElem?_cons_zero, List.getElem?_cons_succ, List.set_cons_zero, List.set_cons_succ, s_aload_n0, ldA_r, ldA_n, s_iload_n1, ldI_s, s_iload_n2, s_invokevirtual, rc_s, ob_s, List.drop_succ_cons, List.drop_zero, List.take_succ_cons, List.take_zero, List.reverse_cons, List.reverse_nil, List.nil_append, List.cons_append, List.length_cons, List.length_nil, d1, Int.reduceToNat, Nat.reduceAdd, Nat.reduceLeDiff, true_and, and_true, Nat.le_refl, true_implies, forall_const, not_false_eq_true, false_implies, not_true_eq_false, reduceCtorEq, tl_s, tl_n, rf_s, true_or, or_true, hm0.c]
  refine Mdl_fk_c (by omega) hm0 hr0 w wS hs ht (fun h1 r1 A1 c1 m1 e1 e2 e6 => ?_)
  have m2 := m1.f12 0
  refine B_Model_simplifies_6 ?_
  simp only [wp_cons, wp_nil, List.getElem?_cons_zero, List.getElem?_cons_succ, List.set_cons_zero, List.set_cons_succ, s_aload_n0, ldA_r, ldA_n, s_iconst, s_putfield, pv_i, pv_z, pv_r, pv_f, ob_s, z_01, z_11, List.length_cons, List.length_nil, s_istore_n3, p1_s, s1_0, s1_s, kx_i, kx_r, kx_n, kx_l, kx_0, true_and, and_true, Nat.le_refl, true_implies, forall_const, not_false_eq_true, false_implies, not_true_eq_false, reduceCtorEq, tl_s, tl_n, rf_s, List.cons_append, List.nil_append, true_or, or_true, m1.c, Nat.reduceLT, Nat.reduceAdd]
  exact take A1 e6 e2 (sg st.1 s).1.length 0 _ _ A1 _ (by omega) (c1.tr (chg.set _ (by omega))) m2 (fun n h1 h2 => by rw [ui_n _ _ h2, e1 n h1]) (fun n _ => rfl) pts.nil
theorem Mdl_isT_c {d : Nat} (d1 : 1 ≤ d) {v : Int} {h : g_H} {Q : g_Po} (hv : i32 v) (hT : 0 ≤ v ∧ v ≤ 200 → Q (some (.int (I 1))) h) (hF : ¬ (0 ≤ v ∧ v ≤ 200) → Q (some (.int (I 0))) h) : Call Model_isTolerance d 0 0 [.int (I v)] h Q := by
  refine Call.intro (by rfl) (Nat.le_of_ble_eq_true rfl) ?_
  refine G.eqL (L := [some (.int _)]) rfl ?_
  refine B_Model_isTolerance_0 ?_
  simp only [wp_cons, wp_nil, List.getElem?_cons_zero, List.getElem?_cons_succ, List.set_cons_zero, List.set_cons_succ, s_iload_n0, ldI_s, s_iconst, s_sipush, s_invokestatic, rc_s, ob_s, List.drop_succ_cons, List.drop_zero, List.take_succ_cons, List.take_zero, List.reverse_cons, List.reverse_nil, List.nil_append, List.cons_append, List.length_cons, List.length_nil, Nat.reduceEqDiff, reduceIte, p1_s, p2_s, l1_s, d1, Int.reduceToNat, Nat.reduceAdd, Nat.reduceLeDiff, true_and, and_true, Nat.le_refl, true_implies, forall_const, not_false_eq_true, false_implies, not_true_eq_false, reduceCtorEq, tl_s, tl_n, rf_s, true_or, or_true]
  refine Mdl_within_c hv (by omega) (by omega) (fun c => ?_) (fun c => ?_)
  · refine B_Model_isTolerance_8 ?_
    simp only [wp_cons, wp_nil, List.getElem?_cons_zero, List.getElem?_cons_succ, List.set_cons_zero, List.set_cons_succ, s_ireturn, p1_s, rI_i, rI_z, rI_c, z_01, z_11, rt_Model_isTolerance, true_and, and_true, Nat.le_refl, true_implies, forall_const, not_false_eq_true, false_implies, not_true_eq_false, reduceCtorEq, tl_s, tl_n, rf_s, List.cons_append, List.nil_append, true_or, or_true]
    exact hT c
  · refine B_Model_isTolerance_8 ?_
    simp only [wp_cons, wp_nil, List.getElem?_cons_zero, List.getElem?_cons_succ, List.set_cons_zero, List.set_cons_succ, s_ireturn, p1_s, rI_i, rI_z, rI_c, z_01, z_11, rt_Model_isTolerance, true_and, and_true, Nat.le_refl, true_implies, forall_const, not_false_eq_true, false_implies, not_true_eq_false, reduceCtorEq, tl_s, tl_n, rf_s, List.cons_append, List.nil_append, true_or, or_true]
    exact hF c
theorem Mdl_simp_c {d M : Nat} (hd : 9 ≤ d) {W : Wd} {s t : Int} {h : g_H} {Q : g_Po} (w : wfW W) (hp : mrep h M W) (hs : i32 s) (ht : i32 t) (hQ : MQ9 M h Q (sp_simp W s t)) : Call Model_simplify d 0 0 [.ref M, .int (I s), .int (I t)] h Q := by
  have d1 : 1 ≤ d := by omega
  obtain ⟨⟨Ss, pn⟩, Hs, T, l⟩ := W
  obtain ⟨r, A, hm, hst⟩ := id hp
  have wl := w.g.1.l
  unfold sp_simp at hQ
  dsimp only at hQ
  refine Call.intro (by rfl) (Nat.le_of_ble_eq_true rfl) ?_
  refine G.eqL (L := [some (.ref _), some (.int _), some (.int _)]) rfl ?_
  refine B_Model_simplify_0 ?_
  simp only [wp_cons, wp_nil, List.getElem?_cons_zero, List.getElem?_cons_succ, List.set_cons_zero, List.set_cons_succ, s_aload_n0, ldA_r, ldA_n, s_iload_n1, ldI_s, s_invokevirtual, rc_s, ob_s, List.drop_succ_cons, List.drop_zero, List.take_succ_cons, List.take_zero, List.reverse_cons, List.reverse_nil, List.nil_append, List.cons_append, List.length_cons, List.length_nil, d1, Int.reduceToNat, Nat.reduceAdd, Nat.reduceLeDiff, true_and, and_true, Nat.le_refl, true_implies, forall_const, not_false_eq_true, false_implies, not_true_eq_false, reduceCtorEq, tl_s, tl_n, rf_s, true_or, or_true, hm.c]
  refine Mdl_isS2_c (by omega) hm hst.1 wl hs (fun c1 => ?_) (fun c1 => ?_)
  · rw [if_neg (fun q => q c1)] at hQ
    obtain ⟨i, rfl, hi⟩ := nat_of c1
    replace hi : i < Ss.length := hi
    rw [tn_i] at hQ
    have wi := wl.2 i hi
    have w0 := wl.1
    have wS := w.g.1.2 i hi
    refine B_Model_simplify_5 ?_
    simp only [wp_cons, wp_nil, List.getElem?_cons_zero, List.getElem?_cons_succ, List.set_cons_zero, List.set_cons_succ, s_ifCond_ne, p1_s, true_and, and_true, Nat.le_refl, true_implies, forall_const, not_false_eq_true, false_implies, not_true_eq_false, reduceCtorEq, tl_s, tl_n, rf_s, List.cons_append, List.nil_append, true_or, or_true, hm.c]
    refine b_ne (by omega) (by omega) (fun cc => ?_) (fun cc => absurd cc (by omega))
    refine B_Model_simplify_10 ?_
    simp only [wp_cons, wp_nil, List.getElem?_cons_zero, List.getElem?_cons_succ, List.set_cons_zero, List.set_cons_succ, s_iload_n2, ldI_s, s_invokestatic, rc_s, ob_s, List.drop_succ_cons, List.drop_zero, List.take_succ_cons, List.take_zero, List.reverse_cons, List.reverse_nil, List.nil_append, List.cons_append, List.length_cons, List.length_nil, Nat.reduceEqDiff, reduceIte, p1_s, p2_s, l1_s, d1, Int.reduceToNat, Nat.reduceAdd, Nat.reduceLeDiff, true_and, and_true, Nat.le_refl, true_implies, forall_const, not_false_eq_true, false_implies, not_true_eq_false, reduceCtorEq, tl_s, tl_n, rf_s, true_or, or_true, hm.c]
    refine Mdl_isT_c (by omega) ht (fun c2 => ?_) (fun c2 => ?_)
    · rw [if_neg (fun q => q c2)] at hQ
      refine B_Model_simplify_14 ?_
      simp only [wp_cons, wp_nil, List.getElem?_cons_zero, List.getElem?_cons_succ, List.set_cons_zero, List.set_cons_succ, s_ifCond_ne, p1_s, true_and, and_true, Nat.le_refl, true_implies, forall_const, not_false_eq_true, false_implies, not_true_eq_false, reduceCtorEq, tl_s, tl_n, rf_s, List.cons_append, List.nil_append, true_or, or_true, hm.c]
      refine b_ne (by omega) (by omega) (fun cc => ?_) (fun cc => absurd cc (by omega))
      refine B_Model_simplify_20 ?_
      simp only [wp_cons, wp_nil, List.getElem?_cons_zero, List.getElem?_cons_succ, List.set_cons_zero, List.set_cons_succ, s_aload_n0, ldA_r, ldA_n, s_invokevirtual, rc_s, ob_s, List.drop_succ_cons, List.drop_zero, List.take_succ_cons, List.take_zero, List.reverse_cons, List.reverse_nil, List.nil_append, List.cons_append, List.length_cons, List.length_nil, d1, Int.reduceToNat, Nat.reduceAdd, Nat.reduceLeDiff, true_and, and_true, Nat.le_refl, true_implies, forall_const, not_false_eq_true, false_implies, not_true_eq_false, reduceCtorEq, tl_s, tl_n, rf_s, true_or, or_true, hm.c]
      refine Mdl_rec_c (by omega) hm hst w (fun h1 r1 A1 c1' m1 e1 e2 s1 => ?_)
      refine B_Model_simplify_24 ?_
      simp only [wp_cons, wp_nil, List.getElem?_cons_zero, List.getElem?_cons_succ, List.set_cons_zero, List.set_cons_succ, s_aload_n0, ldA_r, ldA_n, s_iload_n1, ldI_s, s_iload_n2, s_invokevirtual, rc_s, ob_s, List.drop_succ_cons, List.drop_zero, List.take_succ_cons, List.take_zero, List.reverse_cons, List.reverse_nil, List.nil_append, List.cons_append, List.length_cons, List.length_nil, d1, Int.reduceToNat, Nat.reduceAdd, Nat.reduceLeDiff, true_and, and_true, Nat.le_refl, true_implies, forall_const, not_false_eq_true, false_implies, not_true_eq_false, reduceCtorEq, tl_s, tl_n, rf_s, true_or, or_true, m1.c]
      refine Mdl_smps_c (by omega) m1 s1.1 wl wS hi c2 (fun h3 r3 A3 c3 m3 e3 e4 p3 => ?_)
      have s3 : stR (A3 1) (Ss, pn) := by rw [e4 1 (by omega) (by omega) (by omega) (by omega)]; exact s1.1
      have lz : (smpS (sg Ss i) t).1.length ≤ 30 ∧ 1 ≤ (smpS (sg Ss i) t).1.length ∧ (smpS (sg Ss i) t).2 = (sg Ss i).2 := by
        have h1 := pick_len (fun j => decide (t ≤ levS (sg Ss i) j)) (sg Ss i).1 (sg Ss i).1.length
        have h2 : 0 < (picS (sg Ss i) t).length := pick_ne _ _ (by simp [levS]; omega) _ (by omega)
        unfold smpS
        split
        · exact ⟨wi.2.1, wi.1, rfl⟩
        · exact ⟨by show (picS (sg Ss i) t).length ≤ 30; unfold picS; omega, h2, rfl⟩
      have ez : smpS (sg Ss i) t = ((smpS (sg Ss i) t).1, (sg Ss i).2) := by rw [← lz.2.2]
      refine B_Model_simplify_30 ?_
      simp only [wp_cons, wp_nil, List.getElem?_cons_zero, List.getElem?_cons_succ, List.set_cons_zero, List.set_cons_succ, s_aload_n0, ldA_r, ldA_n, s_iload_n1, ldI_s, s_invokevirtual, rc_s, ob_s, List.drop_succ_cons, List.drop_zero, List.take_succ_cons, List.take_zero, List.reverse_cons, List.reverse_nil, List.nil_append, List.cons_append, List.length_cons, List.length_nil, d1, Int.reduceToNat, Nat.reduceAdd, Nat.reduceLeDiff, true_and, and_true, Nat.le_refl, true_implies, forall_const, not_false_eq_true, false_implies, not_true_eq_false, reduceCtorEq, tl_s, tl_n, rf_s, true_or, or_true, m3.c]
      refine Mdl_clo_c (by omega) m3 s3 wl hi ?_
      refine B_Model_simplify_37 ?_
      simp only [wp_cons, wp_nil, List.getElem?_cons_zero, List.getElem?_cons_succ, List.set_cons_zero, List.set_cons_succ, s_invokevirtual, rc_s, ob_s, List.drop_succ_cons, List.drop_zero, List.take_succ_cons, List.take_zero, List.reverse_cons, List.reverse_nil, List.nil_append, List.cons_append, List.length_cons, List.length_nil, d1, Int.reduceToNat, Nat.reduceAdd, Nat.reduceLeDiff, true_and, and_true, Nat.le_refl, true_implies, forall_const, not_false_eq_true, false_implies, not_true_eq_false, reduceCtorEq, tl_s, tl_n, rf_s, true_or, or_true, m3.c]
      refine Mdl_lays_c (z := (sg Ss i).2) (by omega) m3 p3 lz.1 (by omega) (fun h4 A4 c4 m4 e6 e7 e8 e9 e10 => ?_)
      have s4 := s3.lay (fun j hj => (wl.2 j hj).2.1) w.g.2.1.1 hi e7 e8 e9 e10
      rw [← ez] at s4
      refine B_Model_simplify_40 ?_
      simp only [wp_cons, wp_nil, List.getElem?_cons_zero, List.getElem?_cons_succ, List.set_cons_zero, List.set_cons_succ, s_aload_n0, ldA_r, ldA_n, s_iload_n1, ldI_s, s_invokevirtual, rc_s, ob_s, List.drop_succ_cons, List.drop_zero, List.take_succ_cons, List.take_zero, List.reverse_cons, List.reverse_nil, List.nil_append, List.cons_append, List.length_cons, List.length_nil, d1, Int.reduceToNat, Nat.reduceAdd, Nat.reduceLeDiff, true_and, and_true, Nat.le_refl, true_implies, forall_const, not_false_eq_true, false_implies, not_true_eq_false, reduceCtorEq, tl_s, tl_n, rf_s, true_or, or_true, m4.c]
      have a8 : A4 1 (32 + 32 * i) = (smpS (sg Ss i) t).1.length := e8
      refine Mdl_many_c (by omega) m4 (by omega) ?_
      rw [a8]
      refine B_Model_simplify_45 ?_
      simp only [wp_cons, wp_nil, List.getElem?_cons_zero, List.getElem?_cons_succ, List.set_cons_zero, List.set_cons_succ, s_ireturn, p1_s, rI_i, rI_z, rI_c, z_01, z_11, rt_Model_simplify, true_and, and_true, Nat.le_refl, true_implies, forall_const, not_false_eq_true, false_implies, not_true_eq_false, reduceCtorEq, tl_s, tl_n, rf_s, List.cons_append, List.nil_append, true_or, or_true, m4.c]
      exact hQ h4 ((c1'.tr c3).tr c4) ⟨_, _, m4, s1.s1 s4 (fun n hn => by rw [e6 n (by omega), e4 n (by omega) (by omega) (by omega) (by omega)]) (e3 3 (by omega) (by omega)) (e3 5 (by omega) (by omega))⟩
    · rw [if_pos c2] at hQ
      refine B_Model_simplify_14 ?_
      simp only [wp_cons, wp_nil, List.getElem?_cons_zero, List.getElem?_cons_succ, List.set_cons_zero, List.set_cons_succ, s_ifCond_ne, p1_s, true_and, and_true, Nat.le_refl, true_implies, forall_const, not_false_eq_true, false_implies, not_true_eq_false, reduceCtorEq, tl_s, tl_n, rf_s, List.cons_append, List.nil_append, true_or, or_true, hm.c]
      refine B_Model_simplify_17 ?_
      simp only [wp_cons, wp_nil, List.getElem?_cons_zero, List.getElem?_cons_succ, List.set_cons_zero, List.set_cons_succ, s_bipush, s_ireturn, p1_s, rI_i, rI_z, rI_c, z_01, z_11, rt_Model_simplify, true_and, and_true, Nat.le_refl, true_implies, forall_const, not_false_eq_true, false_implies, not_true_eq_false, reduceCtorEq, tl_s, tl_n, rf_s, List.cons_append, List.nil_append, true_or, or_true, hm.c]
      exact hQ h chg.rf hp
  · rw [if_pos c1] at hQ
    refine B_Model_simplify_5 ?_
    simp only [wp_cons, wp_nil, List.getElem?_cons_zero, List.getElem?_cons_succ, List.set_cons_zero, List.set_cons_succ, s_ifCond_ne, p1_s, true_and, and_true, Nat.le_refl, true_implies, forall_const, not_false_eq_true, false_implies, not_true_eq_false, reduceCtorEq, tl_s, tl_n, rf_s, List.cons_append, List.nil_append, true_or, or_true, hm.c]
    refine B_Model_simplify_8 ?_
    simp only [wp_cons, wp_nil, List.getElem?_cons_zero, List.getElem?_cons_succ, List.set_cons_zero, List.set_cons_succ, s_iconst, s_ireturn, p1_s, rI_i, rI_z, rI_c, z_01, z_11, rt_Model_simplify, true_and, and_true, Nat.le_refl, true_implies, forall_const, not_false_eq_true, false_implies, not_true_eq_false, reduceCtorEq, tl_s, tl_n, rf_s, List.cons_append, List.nil_append, true_or, or_true, hm.c]
    exact hQ h chg.rf hp
theorem Mdl_ifs_c {d M : Nat} (hd : 9 ≤ d) {W : Wd} {s t : Int} {h : g_H} {Q : g_Po} (w : wfW W) (hp : mrep h M W) (hs : i32 s) (ht : i32 t) (hQ : MQ9 M h Q (sp_ifs W s t)) : Call Model_ifSimplified d 0 0 [.ref M, .int (I s), .int (I t)] h Q := by
  have d1 : 1 ≤ d := by omega
  obtain ⟨⟨Ss, pn⟩, Hs, T, l⟩ := W
  obtain ⟨r, A, hm, hst⟩ := id hp
  have wl := w.g.1.l
  unfold sp_ifs at hQ
  dsimp only at hQ
  refine Call.intro (by rfl) (Nat.le_of_ble_eq_true rfl) ?_
  refine G.eqL (L := [some (.ref _), some (.int _), some (.int _)]) rfl ?_
  refine B_Model_ifSimplified_0 ?_
  simp only [wp_cons, wp_nil, List.getElem?_cons_zero, List.getElem?_cons_succ, List.set_cons_zero, List.set_cons_succ, s_aload_n0, ldA_r, ldA_n, s_iload_n1, ldI_s, s_invokevirtual, rc_s, ob_s, List.drop_succ_cons, List.drop_zero, List.take_succ_cons, List.take_zero, List.reverse_cons, List.reverse_nil, List.nil_append, List.cons_append, List.length_cons, List.length_nil, d1, Int.reduceToNat, Nat.reduceAdd, Nat.reduceLeDiff, true_and, and_true, Nat.le_refl, true_implies, forall_const, not_false_eq_true, false_implies, not_true_eq_false, reduceCtorEq, tl_s, tl_n, rf_s, true_or, or_true, hm.c]
  refine Mdl_isS2_c (by omega) hm hst.1 wl hs (fun c1 => ?_) (fun c1 => ?_)
  · rw [if_neg (fun q => q c1)] at hQ
    obtain ⟨i, rfl, hi⟩ := nat_of c1
    replace hi : i < Ss.length := hi
    rw [tn_i] at hQ
    have wi := wl.2 i hi
    have w0 := wl.1
    have wS := w.g.1.2 i hi
    refine B_Model_ifSimplified_5 ?_
    simp only [wp_cons, wp_nil, List.getElem?_cons_zero, List.getElem?_cons_succ, List.set_cons_zero, List.set_cons_succ, s_ifCond_ne, p1_s, true_and, and_true, Nat.le_refl, true_implies, forall_const, not_false_eq_true, false_implies, not_true_eq_false, reduceCtorEq, tl_s, tl_n, rf_s, List.cons_append, List.nil_append, true_or, or_true, hm.c]
    refine b_ne (by omega) (by omega) (fun cc => ?_) (fun cc => absurd cc (by omega))
    refine B_Model_ifSimplified_10 ?_
    simp only [wp_cons, wp_nil, List.getElem?_cons_zero, List.getElem?_cons_succ, List.set_cons_zero, List.set_cons_succ, s_iload_n2, ldI_s, s_invokestatic, rc_s, ob_s, List.drop_succ_cons, List.drop_zero, List.take_succ_cons, List.take_zero, List.reverse_cons, List.reverse_nil, List.nil_append, List.cons_append, List.length_cons, List.length_nil, Nat.reduceEqDiff, reduceIte, p1_s, p2_s, l1_s, d1, Int.reduceToNat, Nat.reduceAdd, Nat.reduceLeDiff, true_and, and_true, Nat.le_refl, true_implies, forall_const, not_false_eq_true, false_implies, not_true_eq_false, reduceCtorEq, tl_s, tl_n, rf_s, true_or, or_true, hm.c]
    refine Mdl_isT_c (by omega) ht (fun c2 => ?_) (fun c2 => ?_)
    · rw [if_neg (fun q => q c2)] at hQ
      refine B_Model_ifSimplified_14 ?_
      simp only [wp_cons, wp_nil, List.getElem?_cons_zero, List.getElem?_cons_succ, List.set_cons_zero, List.set_cons_succ, s_ifCond_ne, p1_s, true_and, and_true, Nat.le_refl, true_implies, forall_const, not_false_eq_true, false_implies, not_true_eq_false, reduceCtorEq, tl_s, tl_n, rf_s, List.cons_append, List.nil_append, true_or, or_true, hm.c]
      refine b_ne (by omega) (by omega) (fun cc => ?_) (fun cc => absurd cc (by omega))
      refine B_Model_ifSimplified_20 ?_
      simp only [wp_cons, wp_nil, List.getElem?_cons_zero, List.getElem?_cons_succ, List.set_cons_zero, List.set_cons_succ, s_aload_n0, ldA_r, ldA_n, s_iload_n1, ldI_s, s_iload_n2, s_invokevirtual, rc_s, ob_s, List.drop_succ_cons, List.drop_zero, List.take_succ_cons, List.take_zero, List.reverse_cons, List.reverse_nil, List.nil_append, List.cons_append, List.length_cons, List.length_nil, d1, Int.reduceToNat, Nat.reduceAdd, Nat.reduceLeDiff, true_and, and_true, Nat.le_refl, true_implies, forall_const, not_false_eq_true, false_implies, not_true_eq_false, reduceCtorEq, tl_s, tl_n, rf_s, true_or, or_true, hm.c]
      refine Mdl_smps_c (by omega) hm hst.1 wl wS hi c2 (fun h3 r3 A3 c3 m3 e3 e4 p3 => ?_)
      have p1 := p3.1
      have s3 : stR (A3 1) (Ss, pn) := by rw [e4 1 (by omega) (by omega) (by omega) (by omega)]; exact hst.1
      refine B_Model_ifSimplified_26 ?_
      simp only [wp_cons, wp_nil, List.getElem?_cons_zero, List.getElem?_cons_succ, List.set_cons_zero, List.set_cons_succ, s_aload_n0, ldA_r, ldA_n, s_getfield, pR_s, ob_s, gt_s, s_ireturn, p1_s, rI_i, rI_z, rI_c, z_01, z_11, rt_Model_ifSimplified, true_and, and_true, Nat.le_refl, true_implies, forall_const, not_false_eq_true, false_implies, not_true_eq_false, reduceCtorEq, tl_s, tl_n, rf_s, List.cons_append, List.nil_append, true_or, or_true, m3.c, p1]
      exact hQ h3 c3 ⟨_, _, m3, hst.s1 s3 (fun n hn => by rw [e4 n (by omega) (by omega) (by omega) (by omega)]) (e3 3 (by omega) (by omega)) (e3 5 (by omega) (by omega))⟩
    · rw [if_pos c2] at hQ
      refine B_Model_ifSimplified_14 ?_
      simp only [wp_cons, wp_nil, List.getElem?_cons_zero, List.getElem?_cons_succ, List.set_cons_zero, List.set_cons_succ, s_ifCond_ne, p1_s, true_and, and_true, Nat.le_refl, true_implies, forall_const, not_false_eq_true, false_implies, not_true_eq_false, reduceCtorEq, tl_s, tl_n, rf_s, List.cons_append, List.nil_append, true_or, or_true, hm.c]
      refine B_Model_ifSimplified_17 ?_
      simp only [wp_cons, wp_nil, List.getElem?_cons_zero, List.getElem?_cons_succ, List.set_cons_zero, List.set_cons_succ, s_bipush, s_ireturn, p1_s, rI_i, rI_z, rI_c, z_01, z_11, rt_Model_ifSimplified, true_and, and_true, Nat.le_refl, true_implies, forall_const, not_false_eq_true, false_implies, not_true_eq_false, reduceCtorEq, tl_s, tl_n, rf_s, List.cons_append, List.nil_append, true_or, or_true, hm.c]
      exact hQ h chg.rf hp
  · rw [if_pos c1] at hQ
    refine B_Model_ifSimplified_5 ?_
    simp only [wp_cons, wp_nil, List.getElem?_cons_zero, List.getElem?_cons_succ, List.set_cons_zero, List.set_cons_succ, s_ifCond_ne, p1_s, true_and, and_true, Nat.le_refl, true_implies, forall_const, not_false_eq_true, false_implies, not_true_eq_false, reduceCtorEq, tl_s, tl_n, rf_s, List.cons_append, List.nil_append, true_or, or_true, hm.c]
    refine B_Model_ifSimplified_8 ?_
    simp only [wp_cons, wp_nil, List.getElem?_cons_zero, List.getElem?_cons_succ, List.set_cons_zero, List.set_cons_succ, s_iconst, s_ireturn, p1_s, rI_i, rI_z, rI_c, z_01, z_11, rt_Model_ifSimplified, true_and, and_true, Nat.le_refl, true_implies, forall_const, not_false_eq_true, false_implies, not_true_eq_false, reduceCtorEq, tl_s, tl_n, rf_s, List.cons_append, List.nil_append, true_or, or_true, hm.c]
    exact hQ h chg.rf hp
theorem Mdl_tol_c {d M : Nat} (hd : 9 ≤ d) {W : Wd} {s n : Int} {h : g_H} {Q : g_Po} (w : wfW W) (hp : mrep h M W) (hs : i32 s) (hn : i32 n) (hQ : MQ9 M h Q (sp_tol W s n)) : Call Model_toleranceFor d 0 0 [.ref M, .int (I s), .int (I n)] h Q := by
  have d1 : 1 ≤ d := by omega
  obtain ⟨⟨Ss, pn⟩, Hs, T, l⟩ := W
  obtain ⟨r, A, hm, hst⟩ := id hp
  have wl := w.g.1.l
  unfold sp_tol at hQ
  dsimp only at hQ
  refine Call.intro (by rfl) (Nat.le_of_ble_eq_true rfl) ?_
  refine G.eqL (L := [some (.ref _), some (.int _), some (.int _), none]) rfl ?_
  refine B_Model_toleranceFor_0 ?_
  simp only [wp_cons, wp_nil, List.getElem?_cons_zero, List.getElem?_cons_succ, List.set_cons_zero, List.set_cons_succ, s_aload_n0, ldA_r, ldA_n, s_iload_n1, ldI_s, s_invokevirtual, rc_s, ob_s, List.drop_succ_cons, List.drop_zero, List.take_succ_cons, List.take_zero, List.reverse_cons, List.reverse_nil, List.nil_append, List.cons_append, List.length_cons, List.length_nil, d1, Int.reduceToNat, Nat.reduceAdd, Nat.reduceLeDiff, true_and, and_true, Nat.le_refl, true_implies, forall_const, not_false_eq_true, false_implies, not_true_eq_false, reduceCtorEq, tl_s, tl_n, rf_s, true_or, or_true, hm.c]
  refine Mdl_isS2_c (by omega) hm hst.1 wl hs (fun c1 => ?_) (fun c1 => ?_)
  · rw [if_neg (fun q => q c1)] at hQ
    obtain ⟨i, rfl, hi⟩ := nat_of c1
    replace hi : i < Ss.length := hi
    rw [tn_i] at hQ
    have wi := wl.2 i hi
    have w0 := wl.1
    have wS := w.g.1.2 i hi
    refine B_Model_toleranceFor_5 ?_
    simp only [wp_cons, wp_nil, List.getElem?_cons_zero, List.getElem?_cons_succ, List.set_cons_zero, List.set_cons_succ, s_ifCond_ne, p1_s, true_and, and_true, Nat.le_refl, true_implies, forall_const, not_false_eq_true, false_implies, not_true_eq_false, reduceCtorEq, tl_s, tl_n, rf_s, List.cons_append, List.nil_append, true_or, or_true, hm.c]
    refine b_ne (by omega) (by omega) (fun cc => ?_) (fun cc => absurd cc (by omega))
    refine B_Model_toleranceFor_10 ?_
    simp only [wp_cons, wp_nil, List.getElem?_cons_zero, List.getElem?_cons_succ, List.set_cons_zero, List.set_cons_succ, s_iload_n2, ldI_s, s_iconst, s_bipush, s_invokestatic, rc_s, ob_s, List.drop_succ_cons, List.drop_zero, List.take_succ_cons, List.take_zero, List.reverse_cons, List.reverse_nil, List.nil_append, List.cons_append, List.length_cons, List.length_nil, Nat.reduceEqDiff, reduceIte, p1_s, p2_s, l1_s, d1, Int.reduceToNat, Nat.reduceAdd, Nat.reduceLeDiff, true_and, and_true, Nat.le_refl, true_implies, forall_const, not_false_eq_true, false_implies, not_true_eq_false, reduceCtorEq, tl_s, tl_n, rf_s, true_or, or_true, hm.c]
    refine Mdl_within_c hn (by omega) (by omega) (fun c2 => ?_) (fun c2 => ?_)
    · rw [if_neg (fun q => q c2)] at hQ
      have loop : ∀ (m t : Nat) (h3 : g_H) (r3 : Nat → Int) (A3 : Nat → Nat → Int), t + m = 201 → tolf (sg Ss i) n 201 0 = tolf (sg Ss i) n m t → chg M (M + 10) h h3 → mdl h3 M r3 A3 → (∀ n, n ≠ 10 → n ≠ 12 → r3 n = r n) → (∀ n, n ≠ 6 → n ≠ 7 → n ≠ 8 → n ≠ 9 → A3 n = A n) → G Model_toleranceFor d 0 0 0 0 25 [some (.ref M), some (.int (I (i : Int))), some (.int (I n)), some (.int (I (t : Int)))] [] h3 Q := by
        intro m
        induction m with
        | zero =>
          intro t h3 r3 A3 ht ht2 c3 m3 e3 e4
          obtain rfl : t = 201 := by omega
          have s3 : stR (A3 1) (Ss, pn) := by rw [e4 1 (by omega) (by omega) (by omega) (by omega)]; exact hst.1
          rw [ht2] at hQ
          refine B_Model_toleranceFor_25 ?_
          simp only [wp_cons, wp_nil, List.getElem?_cons_zero, List.getElem?_cons_succ, List.set_cons_zero, List.set_cons_succ, s_iload_n3, ldI_s, s_sipush, s_if_icmp_gt, p2_s, true_and, and_true, Nat.le_refl, true_implies, forall_const, not_false_eq_true, false_implies, not_true_eq_false, reduceCtorEq, tl_s, tl_n, rf_s, List.cons_append, List.nil_append, true_or, or_true, m3.c]
          refine b_lt (by omega) (by omega) (fun cc => ?_) (fun cc => absurd cc (by omega))
          refine B_Model_toleranceFor_54 ?_
          simp only [wp_cons, wp_nil, List.getElem?_cons_zero, List.getElem?_cons_succ, List.set_cons_zero, List.set_cons_succ, s_bipush, s_ireturn, p1_s, rI_i, rI_z, rI_c, z_01, z_11, rt_Model_toleranceFor, true_and, and_true, Nat.le_refl, true_implies, forall_const, not_false_eq_true, false_implies, not_true_eq_false, reduceCtorEq, tl_s, tl_n, rf_s, List.cons_append, List.nil_append, true_or, or_true, m3.c]
          exact hQ h3 c3 ⟨_, _, m3, hst.s1 s3 (fun n hn => by rw [e4 n (by omega) (by omega) (by omega) (by omega)]) (e3 3 (by omega) (by omega)) (e3 5 (by omega) (by omega))⟩
        | succ m ih =>
          intro t h3 r3 A3 ht ht2 c3 m3 e3 e4
          have s3 : stR (A3 1) (Ss, pn) := by rw [e4 1 (by omega) (by omega) (by omega) (by omega)]; exact hst.1
          refine B_Model_toleranceFor_25 ?_
          simp only [wp_cons, wp_nil, List.getElem?_cons_zero, List.getElem?_cons_succ, List.set_cons_zero, List.set_cons_succ, s_iload_n3, ldI_s, s_sipush, s_if_icmp_gt, p2_s, true_and, and_true, Nat.le_refl, true_implies, forall_const, not_false_eq_true, false_implies, not_true_eq_false, reduceCtorEq, tl_s, tl_n, rf_s, List.cons_append, List.nil_append, true_or, or_true, m3.c]
          refine b_lt (by omega) (by omega) (fun cc => absurd cc (by omega)) (fun cc => ?_)
          refine B_Model_toleranceFor_32 ?_
          simp only [wp_cons, wp_nil, List.getElem?_cons_zero, List.getElem?_cons_succ, List.set_cons_zero, List.set_cons_succ, s_aload_n0, ldA_r, ldA_n, s_iload_n1, ldI_s, s_iload_n3, s_invokevirtual, rc_s, ob_s, List.drop_succ_cons, List.drop_zero, List.take_succ_cons, List.take_zero, List.reverse_cons, List.reverse_nil, List.nil_append, List.cons_append, List.length_cons, List.length_nil, d1, Int.reduceToNat, Nat.reduceAdd, Nat.reduceLeDiff, true_and, and_true, Nat.le_refl, true_implies, forall_const, not_false_eq_true, false_implies, not_true_eq_false, reduceCtorEq, tl_s, tl_n, rf_s, true_or, or_true, m3.c]
          refine Mdl_smps_c (by omega) m3 s3 wl wS hi (by omega) (fun h5 r5 A5 c5 m5 e5 e6 p5 => ?_)
          have p1 : r5 12 = ((smpS (sg Ss i) t).1.length : Int) := p5.1
          have p2 : (smpS (sg Ss i) t).1.length ≤ 64 := p5.2.1
          have e35 : ∀ n, n ≠ 10 → n ≠ 12 → r5 n = r n := fun n h1 h2 => by rw [e5 n h1 h2, e3 n h1 h2]
          have e46 : ∀ n, n ≠ 6 → n ≠ 7 → n ≠ 8 → n ≠ 9 → A5 n = A n := fun n h6 h7 h8 h9 => by rw [e6 n h6 h7 h8 h9, e4 n h6 h7 h8 h9]
          have s5 : stR (A5 1) (Ss, pn) := by rw [e46 1 (by omega) (by omega) (by omega) (by omega)]; exact hst.1
          by_cases c : ((smpS (sg Ss i) t).1.length : Int) ≤ n
          · rw [show tolf (sg Ss i) n (m + 1) t = (t : Int) from if_pos c] at ht2
            rw [ht2] at hQ
            refine B_Model_toleranceFor_38 ?_
            simp only [wp_cons, wp_nil, List.getElem?_cons_zero, List.getElem?_cons_succ, List.set_cons_zero, List.set_cons_succ, s_aload_n0, ldA_r, ldA_n, s_getfield, pR_s, ob_s, gt_s, s_iload_n2, ldI_s, s_if_icmp_gt, p2_s, true_and, and_true, Nat.le_refl, true_implies, forall_const, not_false_eq_true, false_implies, not_true_eq_false, reduceCtorEq, tl_s, tl_n, rf_s, List.cons_append, List.nil_append, true_or, or_true, m5.c, p1]
            refine b_lt (by omega) (by omega) (fun cc => absurd cc (by omega)) (fun cc => ?_)
            refine B_Model_toleranceFor_46 ?_
            simp only [wp_cons, wp_nil, List.getElem?_cons_zero, List.getElem?_cons_succ, List.set_cons_zero, List.set_cons_succ, s_iload_n3, ldI_s, s_ireturn, p1_s, rI_i, rI_z, rI_c, z_01, z_11, rt_Model_toleranceFor, true_and, and_true, Nat.le_refl, true_implies, forall_const, not_false_eq_true, false_implies, not_true_eq_false, reduceCtorEq, tl_s, tl_n, rf_s, List.cons_append, List.nil_append, true_or, or_true, m5.c, p1]
            exact hQ h5 (c3.tr c5) ⟨_, _, m5, hst.s1 s5 (fun n hn => by rw [e46 n (by omega) (by omega) (by omega) (by omega)]) (e35 3 (by omega) (by omega)) (e35 5 (by omega) (by omega))⟩
          · rw [show tolf (sg Ss i) n (m + 1) t = tolf (sg Ss i) n m (t + 1) from if_neg c] at ht2
            refine B_Model_toleranceFor_38 ?_
            simp only [wp_cons, wp_nil, List.getElem?_cons_zero, List.getElem?_cons_succ, List.set_cons_zero, List.set_cons_succ, s_aload_n0, ldA_r, ldA_n, s_getfield, pR_s, ob_s, gt_s, s_iload_n2, ldI_s, s_if_icmp_gt, p2_s, true_and, and_true, Nat.le_refl, true_implies, forall_const, not_false_eq_true, false_implies, not_true_eq_false, reduceCtorEq, tl_s, tl_n, rf_s, List.cons_append, List.nil_append, true_or, or_true, m5.c, p1]
            refine b_lt (by omega) (by omega) (fun cc => ?_) (fun cc => absurd cc (by omega))
            refine B_Model_toleranceFor_48 ?_
            simp only [wp_cons, wp_nil, List.getElem?_cons_zero, List.getElem?_cons_succ, List.set_cons_zero, List.set_cons_succ, s_iinc, ldI_s, s1_0, s1_s, kx_i, kx_r, kx_n, kx_l, kx_0, I_add, s_goto, true_and, and_true, Nat.le_refl, true_implies, forall_const, not_false_eq_true, false_implies, not_true_eq_false, reduceCtorEq, tl_s, tl_n, rf_s, List.cons_append, List.nil_append, true_or, or_true, m5.c, p1]
            exact ih (t + 1) h5 r5 A5 (by omega) ht2 (c3.tr c5) m5 e35 e46
      refine B_Model_toleranceFor_17 ?_
      simp only [wp_cons, wp_nil, List.getElem?_cons_zero, List.getElem?_cons_succ, List.set_cons_zero, List.set_cons_succ, s_ifCond_ne, p1_s, true_and, and_true, Nat.le_refl, true_implies, forall_const, not_false_eq_true, false_implies, not_true_eq_false, reduceCtorEq, tl_s, tl_n, rf_s, List.cons_append, List.nil_append, true_or, or_true, hm.c]
      refine b_ne (by omega) (by omega) (fun cc => ?_) (fun cc => absurd cc (by omega))
      refine B_Model_toleranceFor_23 ?_
      simp only [wp_cons, wp_nil, List.getElem?_cons_zero, List.getElem?_cons_succ, List.set_cons_zero, List.set_cons_succ, s_iconst, s_istore_n3, p1_s, s1_0, s1_s, kx_i, kx_r, kx_n, kx_l, kx_0, true_and, and_true, Nat.le_refl, true_implies, forall_const, not_false_eq_true, false_implies, not_true_eq_false, reduceCtorEq, tl_s, tl_n, rf_s, List.cons_append, List.nil_append, true_or, or_true, hm.c]
      exact loop 201 0 h r A (by omega) rfl chg.rf hm (fun n _ _ => rfl) (fun n _ _ _ _ => rfl)
    · rw [if_pos c2] at hQ
      refine B_Model_toleranceFor_17 ?_
      simp only [wp_cons, wp_nil, List.getElem?_cons_zero, List.getElem?_cons_succ, List.set_cons_zero, List.set_cons_succ, s_ifCond_ne, p1_s, true_and, and_true, Nat.le_refl, true_implies, forall_const, not_false_eq_true, false_implies, not_true_eq_false, reduceCtorEq, tl_s, tl_n, rf_s, List.cons_append, List.nil_append, true_or, or_true, hm.c]
      refine B_Model_toleranceFor_20 ?_
      simp only [wp_cons, wp_nil, List.getElem?_cons_zero, List.getElem?_cons_succ, List.set_cons_zero, List.set_cons_succ, s_bipush, s_ireturn, p1_s, rI_i, rI_z, rI_c, z_01, z_11, rt_Model_toleranceFor, true_and, and_true, Nat.le_refl, true_implies, forall_const, not_false_eq_true, false_implies, not_true_eq_false, reduceCtorEq, tl_s, tl_n, rf_s, List.cons_append, List.nil_append, true_or, or_true, hm.c]
      exact hQ h chg.rf hp
  · rw [if_pos c1] at hQ
    refine B_Model_toleranceFor_5 ?_
    simp only [wp_cons, wp_nil, List.getElem?_cons_zero, List.getElem?_cons_succ, List.set_cons_zero, List.set_cons_succ, s_ifCond_ne, p1_s, true_and, and_true, Nat.le_refl, true_implies, forall_const, not_false_eq_true, false_implies, not_true_eq_false, reduceCtorEq, tl_s, tl_n, rf_s, List.cons_append, List.nil_append, true_or, or_true, hm.c]
    refine B_Model_toleranceFor_8 ?_
    simp only [wp_cons, wp_nil, List.getElem?_cons_zero, List.getElem?_cons_succ, List.set_cons_zero, List.set_cons_succ, s_iconst, s_ireturn, p1_s, rI_i, rI_z, rI_c, z_01, z_11, rt_Model_toleranceFor, true_and, and_true, Nat.le_refl, true_implies, forall_const, not_false_eq_true, false_implies, not_true_eq_false, reduceCtorEq, tl_s, tl_n, rf_s, List.cons_append, List.nil_append, true_or, or_true, hm.c]
    exact hQ h chg.rf hp
