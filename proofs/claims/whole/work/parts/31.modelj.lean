/-! ===== the reference: welding ===== -/
def fwi (rr : Int) (Ss : List Stk) (r : Nat → Int) (l : Int) (e f : Nat) : Prop := (r 13 = -6 ∧ l = 0 ∧ ∀ e' f' : Nat, (e' < e ∨ (e' = e ∧ f' < f)) → ¬ wv rr Ss e' f') ∨ (∃ a b : Nat, r 13 = a ∧ r 14 = b ∧ wv rr Ss a b ∧ l = eD Ss a b ∧ (a < e ∨ (a = e ∧ b < f)) ∧ ∀ e' f' : Nat, (e' < e ∨ (e' = e ∧ f' < f)) → wv rr Ss e' f' → wk Ss a b ≤ wk Ss e' f')
theorem fwi.skip {rr : Int} {Ss : List Stk} {r : Nat → Int} {l : Int} {e f : Nat} (w : wfD Ss) (h : fwi rr Ss r l e f) (hn : wv rr Ss e f → r 13 ≠ -6 ∧ l ≤ eD Ss e f) : fwi rr Ss r l e (f + 1) := by
  rcases h with ⟨h1, h2, h3⟩ | ⟨a, b, h1, h2, h3, h4, h5, h6⟩
  · refine Or.inl ⟨h1, h2, fun e' f' c q => ?_⟩
    by_cases x : e' = e ∧ f' = f
    · obtain ⟨rfl, rfl⟩ := x
      exact (hn q).1 h1
    · exact h3 e' f' (by omega) q
  · refine Or.inr ⟨a, b, h1, h2, h3, h4, by omega, fun e' f' c q => ?_⟩
    by_cases x : e' = e ∧ f' = f
    · obtain ⟨rfl, rfl⟩ := x
      have := (hn q).2
      have := wfD_e w h3.2.2.1
      unfold wk
      omega
    · exact h6 e' f' (by omega) q
theorem fwi.take {rr : Int} {Ss : List Stk} {r r' : Nat → Int} {l : Int} {e f : Nat} (w : wfD Ss) (h : fwi rr Ss r l e f) (hv : wv rr Ss e f) (hl : r 13 = -6 ∨ eD Ss e f < l) (h1 : r' 13 = e) (h2 : r' 14 = f) : fwi rr Ss r' (eD Ss e f) e (f + 1) := by
  refine Or.inr ⟨e, f, h1, h2, hv, rfl, by omega, fun e' f' c q => ?_⟩
  by_cases x : e' = e ∧ f' = f
  · obtain ⟨rfl, rfl⟩ := x; exact Int.le_refl _
  · rcases h with ⟨g1, g2, g3⟩ | ⟨a, b, g1, g2, g3, g4, g5, g6⟩
    · exact absurd q (g3 e' f' (by omega))
    · have := g6 e' f' (by omega) q
      have := wfD_e w hv.2.1
      have := wfD_e w hv.2.2.1
      unfold wk at this ⊢
      unfold wk at *
      rcases hl with hl | hl <;> omega
theorem fwi.row {rr : Int} {Ss : List Stk} {r : Nat → Int} {l : Int} {e f : Nat} (h : fwi rr Ss r l e f) (hf : 2 * Ss.length ≤ f) : fwi rr Ss r l (e + 1) (e + 1 + 1) := by
  have key : ∀ e' f' : Nat, wv rr Ss e' f' → (e' < e + 1 ∨ (e' = e + 1 ∧ f' < e + 1 + 1)) → (e' < e ∨ (e' = e ∧ f' < f)) := fun e' f' q c => by
    have := q.1
    have := q.2.2.1.1
    omega
  rcases h with ⟨h1, h2, h3⟩ | ⟨a, b, h1, h2, h3, h4, h5, h6⟩
  · exact Or.inl ⟨h1, h2, fun e' f' c q => h3 e' f' (key _ _ q c) q⟩
  · exact Or.inr ⟨a, b, h1, h2, h3, h4, by omega, fun e' f' c q => h6 e' f' (key _ _ q c) q⟩
theorem fwi.bd {rr : Int} {Ss : List Stk} {r : Nat → Int} {l : Int} {e f : Nat} (w : wfD Ss) (h : fwi rr Ss r l e f) : (0 ≤ l ∧ l ≤ 1996002) ∧ (r 13 = -6 ∨ (0 ≤ r 13 ∧ r 13 < 20)) := by
  rcases h with ⟨h1, h2, h3⟩ | ⟨a, b, h1, h2, h3, h4, h5, h6⟩
  · omega
  · have a1 := wfD_e w h3.2.1
    have a2 := wfD_e w h3.2.2.1
    have := sqd_bd a1.2.1 a2.2.1
    unfold eD at h4
    omega
theorem Mdl_fw_c {d M : Nat} {rr : Int} (d5 : 5 ≤ d) {st : Sta} {r0 : Nat → Int} {A : Nat → Nat → Int} {h0 : g_H} {Q : g_Po} (hm0 : mdl h0 M r0 A) (hr : stR (A 1) st) (w : wfD st.1) (hrr : 1 ≤ rr ∧ rr ≤ 999)
    (hT : ∀ h' r' a b, chg M (M + 1) h0 h' → mdl h' M r' A → (∀ n, n ≠ 13 → n ≠ 14 → r' n = r0 n) → r' 13 = (a : Nat) → r' 14 = (b : Nat) → wb rr st.1 a b → Q (some (.int (I 1))) h')
    (hF : (¬ ∃ a b, wv rr st.1 a b) → ∀ h' r', chg M (M + 1) h0 h' → mdl h' M r' A → (∀ n, n ≠ 13 → n ≠ 14 → r' n = r0 n) → Q (some (.int (I 0))) h') : Call Model_findWeld d 0 0 [.ref M, .int (I rr)] h0 Q := by
  have d1 : 1 ≤ d := by omega
  have w0 := w.1
  have a0 : A 1 0 = st.1.length := hr.1
  have k0 := ex_ie (x := 0) (i := 0) (n := 352) rfl (by omega)
  have k0y := ex_iz (x := 0) (i := 0) (n := 352) rfl (by omega)
  have done : ∀ (h : g_H) (r : Nat → Int) (l : Int) (e f : Nat) (x4 x5 : Option Value), 2 * st.1.length ≤ e → chg M (M + 1) h0 h → mdl h M r A → (∀ n, n ≠ 13 → n ≠ 14 → r n = r0 n) → fwi rr st.1 r l e f → G Model_findWeld d 0 0 0 0 125 [some (.ref M), some (.int (I rr)), some (.int (I l)), some (.int (I (e : Int))), x4, x5] [] h Q := by
    intro h r l e f x4 x5 he hc hm hk hi
    have hb := hi.bd w
    rcases hi with ⟨h1, h2, h3⟩ | ⟨a, b, h1, h2, h3, h4, h5, h6⟩
    · refine B_Model_findWeld_125 ?_
      simp only [wp_cons, wp_nil, List.getElem?_cons_zero, List.getElem?_cons_succ, List.set_cons_zero, List.set_cons_succ, s_aload_n0, ldA_r, ldA_n, s_getfield, pR_s, ob_s, gt_s, s_bipush, s_if_icmp_eq, p2_s, true_and, and_true, Nat.le_refl, true_implies, forall_const, not_false_eq_true, false_implies, not_true_eq_false, reduceCtorEq, tl_s, tl_n, rf_s, List.cons_append, List.nil_append, true_or, or_true, hm.c]
      refine b_eq (by omega) (by omega) (fun cc => ?_) (fun cc => absurd cc (by omega))
      refine B_Model_findWeld_138 ?_
      simp only [wp_cons, wp_nil, List.getElem?_cons_zero, List.getElem?_cons_succ, List.set_cons_zero, List.set_cons_succ, s_iconst, true_and, and_true, Nat.le_refl, true_implies, forall_const, not_false_eq_true, false_implies, not_true_eq_false, reduceCtorEq, tl_s, tl_n, rf_s, List.cons_append, List.nil_append, true_or, or_true, hm.c]
      refine B_Model_findWeld_139 ?_
      simp only [wp_cons, wp_nil, List.getElem?_cons_zero, List.getElem?_cons_succ, List.set_cons_zero, List.set_cons_succ, s_ireturn, p1_s, rI_i, rI_z, rI_c, z_01, z_11, rt_Model_findWeld, true_and, and_true, Nat.le_refl, true_implies, forall_const, not_false_eq_true, false_implies, not_true_eq_false, reduceCtorEq, tl_s, tl_n, rf_s, List.cons_append, List.nil_append, true_or, or_true, hm.c]
      exact hF (fun q => by obtain ⟨a, b, q⟩ := q; exact h3 a b (Or.inl (by have := q.2.1.1; omega)) q) h r hc hm hk
    · refine B_Model_findWeld_125 ?_
      simp only [wp_cons, wp_nil, List.getElem?_cons_zero, List.getElem?_cons_succ, List.set_cons_zero, List.set_cons_succ, s_aload_n0, ldA_r, ldA_n, s_getfield, pR_s, ob_s, gt_s, s_bipush, s_if_icmp_eq, p2_s, true_and, and_true, Nat.le_refl, true_implies, forall_const, not_false_eq_true, false_implies, not_true_eq_false, reduceCtorEq, tl_s, tl_n, rf_s, List.cons_append, List.nil_append, true_or, or_true, hm.c]
      refine b_eq (by omega) (by omega) (fun cc => absurd cc (by omega)) (fun cc => ?_)
      refine B_Model_findWeld_134 ?_
      simp only [wp_cons, wp_nil, List.getElem?_cons_zero, List.getElem?_cons_succ, List.set_cons_zero, List.set_cons_succ, s_iconst, s_goto, true_and, and_true, Nat.le_refl, true_implies, forall_const, not_false_eq_true, false_implies, not_true_eq_false, reduceCtorEq, tl_s, tl_n, rf_s, List.cons_append, List.nil_append, true_or, or_true, hm.c]
      refine B_Model_findWeld_139 ?_
      simp only [wp_cons, wp_nil, List.getElem?_cons_zero, List.getElem?_cons_succ, List.set_cons_zero, List.set_cons_succ, s_ireturn, p1_s, rI_i, rI_z, rI_c, z_01, z_11, rt_Model_findWeld, true_and, and_true, Nat.le_refl, true_implies, forall_const, not_false_eq_true, false_implies, not_true_eq_false, reduceCtorEq, tl_s, tl_n, rf_s, List.cons_append, List.nil_append, true_or, or_true, hm.c]
      exact hT h r a b hc hm hk h1 h2 ⟨h3, fun e' f' q => h6 e' f' (Or.inl (by have := q.2.1.1; omega)) q⟩
  have inner : ∀ (e : Nat), e < 2 * st.1.length → (∀ (h : g_H) (r : Nat → Int) (l : Int) (x4 x5 : Option Value), chg M (M + 1) h0 h → mdl h M r A → (∀ n, n ≠ 13 → n ≠ 14 → r n = r0 n) → fwi rr st.1 r l (e + 1) (e + 1 + 1) → G Model_findWeld d 0 0 0 0 10 [some (.ref M), some (.int (I rr)), some (.int (I l)), some (.int (I ((e + 1 : Nat) : Int))), x4, x5] [] h Q) →
      ∀ (m f : Nat) (h : g_H) (r : Nat → Int) (l : Int) (x5 : Option Value), f + m = 2 * st.1.length → e < f → chg M (M + 1) h0 h → mdl h M r A → (∀ n, n ≠ 13 → n ≠ 14 → r n = r0 n) → fwi rr st.1 r l e f → G Model_findWeld d 0 0 0 0 27 [some (.ref M), some (.int (I rr)), some (.int (I l)), some (.int (I (e : Int))), some (.int (I (f : Int))), x5] [] h Q := by
    intro e he hO m
    induction m with
    | zero =>
      intro f h r l x5 hf hef hc hm hk hi
      refine B_Model_findWeld_27 ?_
      simp only [wp_cons, wp_nil, List.getElem?_cons_zero, List.getElem?_cons_succ, List.set_cons_zero, List.set_cons_succ, s_iload, ldI_s, s_iconst, s_aload_n0, ldA_r, ldA_n, s_getfield, pR_s, ob_s, gt_s, s_iaload, iR_s, ia_s, s_imul, p2_s, I_mul, s_if_icmp_ge, true_and, and_true, Nat.le_refl, true_implies, forall_const, not_false_eq_true, false_implies, not_true_eq_false, reduceCtorEq, tl_s, tl_n, rf_s, List.cons_append, List.nil_append, true_or, or_true, hm.c, hm.g1, a0, k0, ex_ie]
      refine b_le (by omega) (by omega) (fun cc => ?_) (fun cc => absurd cc (by omega))
      refine B_Model_findWeld_119 ?_
      simp only [wp_cons, wp_nil, List.getElem?_cons_zero, List.getElem?_cons_succ, List.set_cons_zero, List.set_cons_succ, s_iinc, ldI_s, s1_0, s1_s, kx_i, kx_r, kx_n, kx_l, kx_0, I_add, s_goto, true_and, and_true, Nat.le_refl, true_implies, forall_const, not_false_eq_true, false_implies, not_true_eq_false, reduceCtorEq, tl_s, tl_n, rf_s, List.cons_append, List.nil_append, true_or, or_true, hm.c, hm.g1, a0, k0, ex_ie]
      exact hO h r l _ _ hc hm hk (hi.row (by omega))
    | succ m ih =>
      intro f h r l x5 hf hef hc hm hk hi
      have hb := hi.bd w
      have skip : (wv rr st.1 e f → r 13 ≠ -6 ∧ l ≤ eD st.1 e f) → ∀ y, G Model_findWeld d 0 0 0 0 113 [some (.ref M), some (.int (I rr)), some (.int (I l)), some (.int (I (e : Int))), some (.int (I (f : Int))), y] [] h Q := by
        intro hn y
        refine B_Model_findWeld_113 ?_
        simp only [wp_cons, wp_nil, List.getElem?_cons_zero, List.getElem?_cons_succ, List.set_cons_zero, List.set_cons_succ, s_iinc, ldI_s, s1_0, s1_s, kx_i, kx_r, kx_n, kx_l, kx_0, I_add, s_goto, true_and, and_true, Nat.le_refl, true_implies, forall_const, not_false_eq_true, false_implies, not_true_eq_false, reduceCtorEq, tl_s, tl_n, rf_s, List.cons_append, List.nil_append, true_or, or_true]
        exact ih (f + 1) h r l _ (by omega) (by omega) hc hm hk (hi.skip w hn)
      refine B_Model_findWeld_27 ?_
      simp only [wp_cons, wp_nil, List.getElem?_cons_zero, List.getElem?_cons_succ, List.set_cons_zero, List.set_cons_succ, s_iload, ldI_s, s_iconst, s_aload_n0, ldA_r, ldA_n, s_getfield, pR_s, ob_s, gt_s, s_iaload, iR_s, ia_s, s_imul, p2_s, I_mul, s_if_icmp_ge, true_and, and_true, Nat.le_refl, true_implies, forall_const, not_false_eq_true, false_implies, not_true_eq_false, reduceCtorEq, tl_s, tl_n, rf_s, List.cons_append, List.nil_append, true_or, or_true, hm.c, hm.g1, a0, k0, ex_ie]
      refine b_le (by omega) (by omega) (fun cc => absurd cc (by omega)) (fun cc => ?_)
      refine B_Model_findWeld_40 ?_
      simp only [wp_cons, wp_nil, List.getElem?_cons_zero, List.getElem?_cons_succ, List.set_cons_zero, List.set_cons_succ, s_aload_n0, ldA_r, ldA_n, s_iload_n3, ldI_s, s_invokevirtual, rc_s, ob_s, List.drop_succ_cons, List.drop_zero, List.take_succ_cons, List.take_zero, List.reverse_cons, List.reverse_nil, List.nil_append, List.cons_append, List.length_cons, List.length_nil, d1, Int.reduceToNat, Nat.reduceAdd, Nat.reduceLeDiff, true_and, and_true, Nat.le_refl, true_implies, forall_const, not_false_eq_true, false_implies, not_true_eq_false, reduceCtorEq, tl_s, tl_n, rf_s, true_or, or_true, hm.c, hm.g1, a0, k0, ex_ie]
      refine Mdl_isE_c (by omega) hm hr w he (fun z1 => ?_) (fun z1 => ?_)
      · have o1 : eo st.1 e := ⟨he, z1⟩
        refine B_Model_findWeld_45 ?_
        simp only [wp_cons, wp_nil, List.getElem?_cons_zero, List.getElem?_cons_succ, List.set_cons_zero, List.set_cons_succ, s_ifCond_eq, p1_s, true_and, and_true, Nat.le_refl, true_implies, forall_const, not_false_eq_true, false_implies, not_true_eq_false, reduceCtorEq, tl_s, tl_n, rf_s, List.cons_append, List.nil_append, true_or, or_true, hm.c, hm.g1, a0, k0, ex_ie]
        refine b_eq (by omega) (by omega) (fun cc => absurd cc (by omega)) (fun cc => ?_)
        refine B_Model_findWeld_48 ?_
        simp only [wp_cons, wp_nil, List.getElem?_cons_zero, List.getElem?_cons_succ, List.set_cons_zero, List.set_cons_succ, s_aload_n0, ldA_r, ldA_n, s_iload, ldI_s, s_invokevirtual, rc_s, ob_s, List.drop_succ_cons, List.drop_zero, List.take_succ_cons, List.take_zero, List.reverse_cons, List.reverse_nil, List.nil_append, List.cons_append, List.length_cons, List.length_nil, d1, Int.reduceToNat, Nat.reduceAdd, Nat.reduceLeDiff, true_and, and_true, Nat.le_refl, true_implies, forall_const, not_false_eq_true, false_implies, not_true_eq_false, reduceCtorEq, tl_s, tl_n, rf_s, true_or, or_true, hm.c, hm.g1, a0, k0, ex_ie]
        refine Mdl_isE_c (by omega) hm hr w (by omega) (fun z2 => ?_) (fun z2 => ?_)
        · have o2 : eo st.1 f := ⟨by omega, z2⟩
          have p1 := wfD_e w o1
          have p2 := wfD_e w o2
          have hD := sqd_bd p1.2.1 p2.2.1
          refine B_Model_findWeld_54 ?_
          simp only [wp_cons, wp_nil, List.getElem?_cons_zero, List.getElem?_cons_succ, List.set_cons_zero, List.set_cons_succ, s_ifCond_eq, p1_s, true_and, and_true, Nat.le_refl, true_implies, forall_const, not_false_eq_true, false_implies, not_true_eq_false, reduceCtorEq, tl_s, tl_n, rf_s, List.cons_append, List.nil_append, true_or, or_true, hm.c, hm.g1, a0, k0, ex_ie]
          refine b_eq (by omega) (by omega) (fun cc => absurd cc (by omega)) (fun cc => ?_)
          refine B_Model_findWeld_57 ?_
          simp only [wp_cons, wp_nil, List.getElem?_cons_zero, List.getElem?_cons_succ, List.set_cons_zero, List.set_cons_succ, s_aload_n0, ldA_r, ldA_n, s_iload_n3, ldI_s, s_iload, s_iload_n1, s_invokevirtual, rc_s, ob_s, List.drop_succ_cons, List.drop_zero, List.take_succ_cons, List.take_zero, List.reverse_cons, List.reverse_nil, List.nil_append, List.cons_append, List.length_cons, List.length_nil, d1, Int.reduceToNat, Nat.reduceAdd, Nat.reduceLeDiff, true_and, and_true, Nat.le_refl, true_implies, forall_const, not_false_eq_true, false_implies, not_true_eq_false, reduceCtorEq, tl_s, tl_n, rf_s, true_or, or_true, hm.c, hm.g1, a0, k0, ex_ie]
          refine Mdl_mw_c (by omega) hm hr w o1 o2 hef hrr (fun c => ?_) (fun c => ?_)
          · refine B_Model_findWeld_65 ?_
            simp only [wp_cons, wp_nil, List.getElem?_cons_zero, List.getElem?_cons_succ, List.set_cons_zero, List.set_cons_succ, s_ifCond_eq, p1_s, true_and, and_true, Nat.le_refl, true_implies, forall_const, not_false_eq_true, false_implies, not_true_eq_false, reduceCtorEq, tl_s, tl_n, rf_s, List.cons_append, List.nil_append, true_or, or_true, hm.c, hm.g1, a0, k0, ex_ie]
            refine b_eq (by omega) (by omega) (fun cc => absurd cc (by omega)) (fun cc => ?_)
            refine B_Model_findWeld_68 ?_
            simp only [wp_cons, wp_nil, List.getElem?_cons_zero, List.getElem?_cons_succ, List.set_cons_zero, List.set_cons_succ, s_aload_n0, ldA_r, ldA_n, s_iload_n3, ldI_s, s_invokevirtual, rc_s, ob_s, List.drop_succ_cons, List.drop_zero, List.take_succ_cons, List.take_zero, List.reverse_cons, List.reverse_nil, List.nil_append, List.cons_append, List.length_cons, List.length_nil, d1, Int.reduceToNat, Nat.reduceAdd, Nat.reduceLeDiff, true_and, and_true, Nat.le_refl, true_implies, forall_const, not_false_eq_true, false_implies, not_true_eq_false, reduceCtorEq, tl_s, tl_n, rf_s, true_or, or_true, hm.c, hm.g1, a0, k0, ex_ie]
            refine Mdl_ep_c (by omega) hm hr w he ?_
            refine B_Model_findWeld_73 ?_
            simp only [wp_cons, wp_nil, List.getElem?_cons_zero, List.getElem?_cons_succ, List.set_cons_zero, List.set_cons_succ, s_aload_n0, ldA_r, ldA_n, s_iload, ldI_s, s_invokevirtual, rc_s, ob_s, List.drop_succ_cons, List.drop_zero, List.take_succ_cons, List.take_zero, List.reverse_cons, List.reverse_nil, List.nil_append, List.cons_append, List.length_cons, List.length_nil, d1, Int.reduceToNat, Nat.reduceAdd, Nat.reduceLeDiff, true_and, and_true, Nat.le_refl, true_implies, forall_const, not_false_eq_true, false_implies, not_true_eq_false, reduceCtorEq, tl_s, tl_n, rf_s, true_or, or_true, hm.c, hm.g1, a0, k0, ex_ie]
            refine Mdl_ep_c (by omega) hm hr w (by omega) ?_
            refine B_Model_findWeld_79 ?_
            simp only [wp_cons, wp_nil, List.getElem?_cons_zero, List.getElem?_cons_succ, List.set_cons_zero, List.set_cons_succ, s_invokestatic, rc_s, ob_s, List.drop_succ_cons, List.drop_zero, List.take_succ_cons, List.take_zero, List.reverse_cons, List.reverse_nil, List.nil_append, List.cons_append, List.length_cons, List.length_nil, Nat.reduceEqDiff, reduceIte, p1_s, p2_s, l1_s, d1, Int.reduceToNat, Nat.reduceAdd, Nat.reduceLeDiff, true_and, and_true, Nat.le_refl, true_implies, forall_const, not_false_eq_true, false_implies, not_true_eq_false, reduceCtorEq, tl_s, tl_n, rf_s, true_or, or_true, hm.c, hm.g1, a0, k0, ex_ie]
            refine Mdl_sqd_c (by omega) p1.2.1 p2.2.1 ?_
            have take : (r 13 = -6 ∨ eD st.1 e f < l) → G Model_findWeld d 0 0 0 0 99 [some (.ref M), some (.int (I rr)), some (.int (I l)), some (.int (I (e : Int))), some (.int (I (f : Int))), some (.int (I (sqd (ep st.1 e) (ep st.1 f))))] [] h Q := by
              intro hl
              have m1 := hm.f13 (e : Int)
              have m2 := m1.f14 (f : Int)
              refine B_Model_findWeld_99 ?_
              simp only [wp_cons, wp_nil, List.getElem?_cons_zero, List.getElem?_cons_succ, List.set_cons_zero, List.set_cons_succ, s_aload_n0, ldA_r, ldA_n, s_iload_n3, ldI_s, s_putfield, pv_i, pv_z, pv_r, pv_f, ob_s, z_01, z_11, List.length_cons, List.length_nil, s_iload, s_istore_n2, p1_s, s1_0, s1_s, kx_i, kx_r, kx_n, kx_l, kx_0, true_and, and_true, Nat.le_refl, true_implies, forall_const, not_false_eq_true, false_implies, not_true_eq_false, reduceCtorEq, tl_s, tl_n, rf_s, List.cons_append, List.nil_append, true_or, or_true, hm.c, m1.c, Nat.reduceLT, Nat.reduceAdd]
              refine B_Model_findWeld_113 ?_
              simp only [wp_cons, wp_nil, List.getElem?_cons_zero, List.getElem?_cons_succ, List.set_cons_zero, List.set_cons_succ, s_iinc, ldI_s, s1_0, s1_s, kx_i, kx_r, kx_n, kx_l, kx_0, I_add, s_goto, true_and, and_true, Nat.le_refl, true_implies, forall_const, not_false_eq_true, false_implies, not_true_eq_false, reduceCtorEq, tl_s, tl_n, rf_s, List.cons_append, List.nil_append, true_or, or_true, hm.c, m1.c, Nat.reduceLT, Nat.reduceAdd]
              exact ih (f + 1) _ _ _ _ (by omega) (by omega) ((hc.tr (chg.set _ (by omega))).tr (chg.set _ (by omega))) m2 (fun n h1 h2 => by rw [ui_n _ _ h2, ui_n _ _ h1, hk n h1 h2]) (hi.take w c hl (by rw [ui_n _ _ (by omega), ui_s]) (ui_s _ _ _))
            by_cases c1 : r 13 = -6
            · refine B_Model_findWeld_82 ?_
              simp only [wp_cons, wp_nil, List.getElem?_cons_zero, List.getElem?_cons_succ, List.set_cons_zero, List.set_cons_succ, s_istore, p1_s, s1_0, s1_s, kx_i, kx_r, kx_n, kx_l, kx_0, s_aload_n0, ldA_r, ldA_n, s_getfield, pR_s, ob_s, gt_s, s_bipush, s_if_icmp_eq, p2_s, true_and, and_true, Nat.le_refl, true_implies, forall_const, not_false_eq_true, false_implies, not_true_eq_false, reduceCtorEq, tl_s, tl_n, rf_s, List.cons_append, List.nil_append, true_or, or_true, hm.c, hm.g1, a0, k0, ex_ie]
              refine b_eq (by omega) (by omega) (fun cc => ?_) (fun cc => absurd c1 cc)
              exact take (Or.inl c1)
            · refine B_Model_findWeld_82 ?_
              simp only [wp_cons, wp_nil, List.getElem?_cons_zero, List.getElem?_cons_succ, List.set_cons_zero, List.set_cons_succ, s_istore, p1_s, s1_0, s1_s, kx_i, kx_r, kx_n, kx_l, kx_0, s_aload_n0, ldA_r, ldA_n, s_getfield, pR_s, ob_s, gt_s, s_bipush, s_if_icmp_eq, p2_s, true_and, and_true, Nat.le_refl, true_implies, forall_const, not_false_eq_true, false_implies, not_true_eq_false, reduceCtorEq, tl_s, tl_n, rf_s, List.cons_append, List.nil_append, true_or, or_true, hm.c, hm.g1, a0, k0, ex_ie]
              refine b_eq (by omega) (by omega) (fun cc => absurd cc c1) (fun cc => ?_)
              refine B_Model_findWeld_93 ?_
              simp only [wp_cons, wp_nil, List.getElem?_cons_zero, List.getElem?_cons_succ, List.set_cons_zero, List.set_cons_succ, s_iload, ldI_s, s_iload_n2, s_if_icmp_ge, p2_s, true_and, and_true, Nat.le_refl, true_implies, forall_const, not_false_eq_true, false_implies, not_true_eq_false, reduceCtorEq, tl_s, tl_n, rf_s, List.cons_append, List.nil_append, true_or, or_true, hm.c, hm.g1, a0, k0, ex_ie]
              refine b_le (by omega) (by omega) (fun cc => ?_) (fun cc => ?_)
              · exact skip (fun _ => ⟨c1, cc⟩) _
              · exact take (Or.inr cc)
          · refine B_Model_findWeld_65 ?_
            simp only [wp_cons, wp_nil, List.getElem?_cons_zero, List.getElem?_cons_succ, List.set_cons_zero, List.set_cons_succ, s_ifCond_eq, p1_s, true_and, and_true, Nat.le_refl, true_implies, forall_const, not_false_eq_true, false_implies, not_true_eq_false, reduceCtorEq, tl_s, tl_n, rf_s, List.cons_append, List.nil_append, true_or, or_true, hm.c, hm.g1, a0, k0, ex_ie]
            exact skip (fun q => absurd q c) _
        · refine B_Model_findWeld_54 ?_
          simp only [wp_cons, wp_nil, List.getElem?_cons_zero, List.getElem?_cons_succ, List.set_cons_zero, List.set_cons_succ, s_ifCond_eq, p1_s, true_and, and_true, Nat.le_refl, true_implies, forall_const, not_false_eq_true, false_implies, not_true_eq_false, reduceCtorEq, tl_s, tl_n, rf_s, List.cons_append, List.nil_append, true_or, or_true, hm.c, hm.g1, a0, k0, ex_ie]
          exact skip (fun q => by have := q.2.2.1.2; rw [z2] at this; cases this) _
      · refine B_Model_findWeld_45 ?_
        simp only [wp_cons, wp_nil, List.getElem?_cons_zero, List.getElem?_cons_succ, List.set_cons_zero, List.set_cons_succ, s_ifCond_eq, p1_s, true_and, and_true, Nat.le_refl, true_implies, forall_const, not_false_eq_true, false_implies, not_true_eq_false, reduceCtorEq, tl_s, tl_n, rf_s, List.cons_append, List.nil_append, true_or, or_true, hm.c, hm.g1, a0, k0, ex_ie]
        exact skip (fun q => by have := q.2.1.2; rw [z1] at this; cases this) _
  have outer : ∀ (m e : Nat) (h : g_H) (r : Nat → Int) (l : Int) (x4 x5 : Option Value), e + m = 2 * st.1.length → chg M (M + 1) h0 h → mdl h M r A → (∀ n, n ≠ 13 → n ≠ 14 → r n = r0 n) → fwi rr st.1 r l e (e + 1) → G Model_findWeld d 0 0 0 0 10 [some (.ref M), some (.int (I rr)), some (.int (I l)), some (.int (I (e : Int))), x4, x5] [] h Q := by
    intro m
    induction m with
    | zero =>
      intro e h r l x4 x5 he hc hm hk hi
      refine B_Model_findWeld_10 ?_
      simp only [wp_cons, wp_nil, List.getElem?_cons_zero, List.getElem?_cons_succ, List.set_cons_zero, List.set_cons_succ, s_iload_n3, ldI_s, s_iconst, s_aload_n0, ldA_r, ldA_n, s_getfield, pR_s, ob_s, gt_s, s_iaload, iR_s, ia_s, s_imul, p2_s, I_mul, s_if_icmp_ge, true_and, and_true, Nat.le_refl, true_implies, forall_const, not_false_eq_true, false_implies, not_true_eq_false, reduceCtorEq, tl_s, tl_n, rf_s, List.cons_append, List.nil_append, true_or, or_true, hm.c, hm.g1, a0, k0, ex_ie]
      refine b_le (by omega) (by omega) (fun cc => ?_) (fun cc => absurd cc (by omega))
      exact done h r l e _ _ _ (by omega) hc hm hk hi
    | succ m ih =>
      intro e h r l x4 x5 he hc hm hk hi
      refine B_Model_findWeld_10 ?_
      simp only [wp_cons, wp_nil, List.getElem?_cons_zero, List.getElem?_cons_succ, List.set_cons_zero, List.set_cons_succ, s_iload_n3, ldI_s, s_iconst, s_aload_n0, ldA_r, ldA_n, s_getfield, pR_s, ob_s, gt_s, s_iaload, iR_s, ia_s, s_imul, p2_s, I_mul, s_if_icmp_ge, true_and, and_true, Nat.le_refl, true_implies, forall_const, not_false_eq_true, false_implies, not_true_eq_false, reduceCtorEq, tl_s, tl_n, rf_s, List.cons_append, List.nil_append, true_or, or_true, hm.c, hm.g1, a0, k0, ex_ie]
      refine b_le (by omega) (by omega) (fun cc => absurd cc (by omega)) (fun cc => ?_)
      refine B_Model_findWeld_22 ?_
      simp only [wp_cons, wp_nil, List.getElem?_cons_zero, List.getElem?_cons_succ, List.set_cons_zero, List.set_cons_succ, s_iload_n3, ldI_s, s_iconst, s_iadd, p2_s, I_add, s_istore, p1_s, s1_0, s1_s, kx_i, kx_r, kx_n, kx_l, kx_0, true_and, and_true, Nat.le_refl, true_implies, forall_const, not_false_eq_true, false_implies, not_true_eq_false, reduceCtorEq, tl_s, tl_n, rf_s, List.cons_append, List.nil_append, true_or, or_true, hm.c, hm.g1, a0, k0, ex_ie]
      exact inner e (by omega) (fun h r l x4 x5 hc hm hk hi => ih (e + 1) h r l _ _ (by omega) hc hm hk hi) (2 * st.1.length - (e + 1)) (e + 1) h r l _ (by omega) (by omega) hc hm hk hi
  have m1 := hm0.f13 (-6)
  refine Call.intro (by rfl) (Nat.le_of_ble_eq_true rfl) ?_
  refine G.eqL (L := [some (.ref _), some (.int _), none, none, none, none]) rfl ?_
  refine B_Model_findWeld_0 ?_
  simp only [wp_cons, wp_nil, List.getElem?_cons_zero, List.getElem?_cons_succ, List.set_cons_zero, List.set_cons_succ, s_aload_n0, ldA_r, ldA_n, s_bipush, s_putfield, pv_i, pv_z, pv_r, pv_f, ob_s, z_01, z_11, List.length_cons, List.length_nil, s_iconst, s_istore_n2, p1_s, s1_0, s1_s, kx_i, kx_r, kx_n, kx_l, kx_0, s_istore_n3, true_and, and_true, Nat.le_refl, true_implies, forall_const, not_false_eq_true, false_implies, not_true_eq_false, reduceCtorEq, tl_s, tl_n, rf_s, List.cons_append, List.nil_append, true_or, or_true, hm0.c, Nat.reduceLT, Nat.reduceAdd]
  exact outer (2 * st.1.length) 0 _ _ 0 _ _ (by omega) (chg.set _ (by omega)) m1 (fun n h1 _ => ui_n _ _ h1) (Or.inl ⟨ui_s _ _ _, rfl, fun e' f' c q => by have := q.1; omega⟩)
