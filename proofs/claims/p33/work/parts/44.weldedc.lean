/-! ===== the law: welded, the whole ===== -/
/-- the first k ends are laid -/
def lin (Ts : List Stk) (k : Nat) (E B Z : Nat → Int) : Prop := ∀ i, i < k → E i = (if (sg Ts (i / 2)).2 = true then -1 else ep Ts i) ∧ ((sg Ts (i / 2)).2 = false → B i = eb Ts i) ∧ Z (i / 2) = ((sg Ts (i / 2)).1.length : Int)
theorem sp_point_0 {W : Wd} {s : Nat} (hs : s < W.1.1.length) (hk : 0 < (sg W.1.1 s).1.length) : (sp_point W s 0).1 = pg (sg W.1.1 s).1 0 := sp_point_k (k := 0) hs hk
theorem sp_point_1 {W : Wd} {s : Nat} (hs : s < W.1.1.length) (hk : 1 < (sg W.1.1 s).1.length) : (sp_point W s 1).1 = pg (sg W.1.1 s).1 1 := sp_point_k (k := 1) hs hk
theorem sp_point_z {W : Wd} {s k : Nat} {z : Int} (hs : s < W.1.1.length) (e : z = k) (hk : k < (sg W.1.1 s).1.length) : (sp_point W s z).1 = pg (sg W.1.1 s).1 k := by rw [e]; exact sp_point_k hs hk
set_option maxHeartbeats 4000000 in
theorem Welded_lay {d : Nat} (hd : 10 ≤ d) {r : Int} {W : Wd} {a b c : Nat} {Q : g_Po} (w : wfW W) (ha : 208 ≤ a) (hb : 208 ≤ b) (hc : 208 ≤ c) (hab : a ≠ b) (hac : a ≠ c) (hbc : b ≠ c) (hO : ∀ (h : g_H) (E B Z : Nat → Int) (x7 x8 x9 x10 x11 : Option Value), ary h a 20 E → ary h b 20 B → ary h c 10 Z → lin W.1.1 (2 * W.1.1.length) E B Z → pens h 0 W → G Law_welded d 3 50 3 50 150 [some (.ref 0), some (.int (I r)), some (.ref a), some (.ref b), some (.ref c), some (.int (I (W.1.1.length : Int))), some (.int (I ((2 * W.1.1.length : Nat) : Int))), x7, x8, x9, x10, x11] [] h Q) : ∀ (m k : Nat) (h : g_H) (E B Z : Nat → Int) (x7 x8 x9 x10 x11 : Option Value), k + m = 2 * W.1.1.length → ary h a 20 E → ary h b 20 B → ary h c 10 Z → lin W.1.1 k E B Z → pens h 0 W → G Law_welded d 3 50 3 50 25 [some (.ref 0), some (.int (I r)), some (.ref a), some (.ref b), some (.ref c), some (.int (I (W.1.1.length : Int))), some (.int (I (k : Int))), x7, x8, x9, x10, x11] [] h Q := by
  have d1 : 1 ≤ d := by omega
  have wl : W.1.1.length ≤ 10 := w.1.1.1
  have e2l : (2 : Int) * (W.1.1.length : Int) = ((2 * W.1.1.length : Nat) : Int) := by omega
  intro m
  induction m with
  | zero =>
    intro k h E B Z x7 x8 x9 x10 x11 hk har hbr hcr hi hp
    obtain rfl : k = 2 * W.1.1.length := by omega
    refine B_Law_welded_25 ?_
    simp only [wp_cons, wp_nil, List.getElem?_cons_zero, List.getElem?_cons_succ, List.set_cons_zero, List.set_cons_succ, s_iload, ldI_s, s_iconst, s_imul, p2_s, I_mul, s_if_icmp_ge, true_and, and_true, Nat.le_refl, true_implies, forall_const, not_false_eq_true, false_implies, not_true_eq_false, reduceCtorEq, tl_s, tl_n, rf_s, List.cons_append, List.nil_append, true_or, or_true, e2l]
    refine b_le (by omega) (by omega) (fun cc => ?_) (fun cc => absurd cc (by omega))
    exact hO h E B Z _ _ _ _ _ har hbr hcr hi hp
  | succ m ih =>
    intro k h E B Z x7 x8 x9 x10 x11 hk har hbr hcr hi hp
    have hs : k / 2 < W.1.1.length := by omega
    have wS := w.1.1.2 (k / 2) hs
    have w1 := wS.1
    have w2 := wS.2.1
    obtain ⟨fs, hc9⟩ := hp.at6
    have hcr' : h[c]? = some (.inl (0, 10, fun i => I (Z i))) := hcr
    refine B_Law_welded_25 ?_
    simp only [wp_cons, wp_nil, List.getElem?_cons_zero, List.getElem?_cons_succ, List.set_cons_zero, List.set_cons_succ, s_iload, ldI_s, s_iconst, s_imul, p2_s, I_mul, s_if_icmp_ge, true_and, and_true, Nat.le_refl, true_implies, forall_const, not_false_eq_true, false_implies, not_true_eq_false, reduceCtorEq, tl_s, tl_n, rf_s, List.cons_append, List.nil_append, true_or, or_true, hc9, e2l, I_hf (show k < 1000 by omega)]
    refine b_le (by omega) (by omega) (fun cc => absurd cc (by omega)) (fun cc => ?_)
    refine B_Law_welded_34 ?_
    simp only [wp_cons, wp_nil, List.getElem?_cons_zero, List.getElem?_cons_succ, List.set_cons_zero, List.set_cons_succ, s_iload, ldI_s, s_iconst, s_idiv, p2_s, ne_k1000, ne_k2, s_istore, p1_s, s1_0, s1_s, kx_i, kx_r, kx_s, kx_n, kx_l, kx_0, s_aload, ldA_r, ldA_n, ldA_s, s_aload_n0, s_invokevirtual, rc_s, ob_s, List.drop_succ_cons, List.drop_zero, List.take_succ_cons, List.take_zero, List.reverse_cons, List.reverse_nil, List.nil_append, List.cons_append, List.length_cons, List.length_nil, d1, Int.reduceToNat, Nat.reduceAdd, Nat.reduceLeDiff, true_and, and_true, Nat.le_refl, true_implies, forall_const, not_false_eq_true, false_implies, not_true_eq_false, reduceCtorEq, tl_s, tl_n, rf_s, true_or, or_true, hc9, e2l, I_hf (show k < 1000 by omega)]
    refine Pens_of_c (by omega) w hp (by omega) (by omega) ?_
    rw [sp_of_0 hs]
    have p1 := hp.st (.inl (0, 10, fun i => I (ui Z (k / 2) ((sg W.1.1 (k / 2)).1.length : Int) i))) hc
    have c1 : ary (h.set c (.inl (0, 10, fun i => I (ui Z (k / 2) ((sg W.1.1 (k / 2)).1.length : Int) i)))) c 10 (ui Z (k / 2) ((sg W.1.1 (k / 2)).1.length : Int)) := h_at _ hcr'
    have a1 := har.ne (.inl (0, 10, fun i => I (ui Z (k / 2) ((sg W.1.1 (k / 2)).1.length : Int) i))) (fun q => hac q.symm)
    have b1 := hbr.ne (.inl (0, 10, fun i => I (ui Z (k / 2) ((sg W.1.1 (k / 2)).1.length : Int) i))) (fun q => hbc q.symm)
    have k0 : ∀ h v, (List.set h c v : g_H)[0]? = h[0]? := hs_ne (by omega)
    refine B_Law_welded_51 ?_
    simp only [wp_cons, wp_nil, List.getElem?_cons_zero, List.getElem?_cons_succ, List.set_cons_zero, List.set_cons_succ, s_iastore, iiR_s, ia_s, s_aload_n0, ldA_r, ldA_n, ldA_s, s_iload, ldI_s, s_iconst, s_invokevirtual, rc_s, ob_s, List.drop_succ_cons, List.drop_zero, List.take_succ_cons, List.take_zero, List.reverse_cons, List.reverse_nil, List.nil_append, List.cons_append, List.length_cons, List.length_nil, d1, Int.reduceToNat, Nat.reduceAdd, Nat.reduceLeDiff, true_and, and_true, Nat.le_refl, true_implies, forall_const, not_false_eq_true, false_implies, not_true_eq_false, reduceCtorEq, tl_s, tl_n, rf_s, true_or, or_true, hcr', ex_ix (i := k / 2) (n := 10) (by omega), upd_ui, k0, hc9]
    generalize h.set c (.inl (0, 10, fun i => I (ui Z (k / 2) ((sg W.1.1 (k / 2)).1.length : Int) i))) = h1 at p1 c1 a1 b1 ⊢
    refine Pens_of_c (by omega) w p1 (by omega) (by omega) ?_
    rw [(sp_of_lit hs).1]
    obtain ⟨fs1, hc1⟩ := p1.at6
    have c1' : h1[c]? = some (.inl (0, 10, fun i => I (ui Z (k / 2) ((sg W.1.1 (k / 2)).1.length : Int) i))) := c1
    have a1' : h1[a]? = some (.inl (0, 20, fun i => I (E i))) := a1
    have zk : ui Z (k / 2) ((sg W.1.1 (k / 2)).1.length : Int) (k / 2) = ((sg W.1.1 (k / 2)).1.length : Int) := ui_s _ _ _
    have em1 : ((sg W.1.1 (k / 2)).1.length : Int) - 1 = (((sg W.1.1 (k / 2)).1.length - 1 : Nat) : Int) := by omega
    have em2 : ((sg W.1.1 (k / 2)).1.length : Int) - 2 = (((sg W.1.1 (k / 2)).1.length - 2 : Nat) : Int) := by omega
    have ka : ∀ h v, (List.set h a v : g_H)[0]? = h[0]? := hs_ne (by omega)
    have kab : ∀ h v, (List.set h a v : g_H)[b]? = h[b]? := hs_ne hab
    have kac : ∀ h v, (List.set h a v : g_H)[c]? = h[c]? := hs_ne hac
    have K143 : ∀ (v u : Int) (h2 : g_H), v = (if (sg W.1.1 (k / 2)).2 = true then -1 else ep W.1.1 k) → ((sg W.1.1 (k / 2)).2 = false → u = eb W.1.1 k) → ary h2 a 20 (ui E k v) → ary h2 b 20 B → ary h2 c 10 (ui Z (k / 2) ((sg W.1.1 (k / 2)).1.length : Int)) → pens h2 0 W → G Law_welded d 3 50 3 50 143 [some (.ref 0), some (.int (I r)), some (.ref a), some (.ref b), some (.ref c), some (.int (I (W.1.1.length : Int))), some (.int (I (k : Int))), some (.int (I ((k / 2 : Nat) : Int))), some (.int (I (sz (sg W.1.1 (k / 2)).2))), x9, x10, x11] [.int (I u), .int (I (k : Int)), .ref b] h2 Q := by
      intro v u h2 hv hu a2 b2 c2 p2
      have b2' : h2[b]? = some (.inl (0, 20, fun i => I (B i))) := b2
      have em : (k : Int) + 1 = ((k + 1 : Nat) : Int) := by omega
      refine B_Law_welded_143 ?_
      simp only [wp_cons, wp_nil, List.getElem?_cons_zero, List.getElem?_cons_succ, List.set_cons_zero, List.set_cons_succ, s_iastore, iiR_s, ia_s, s_iinc, ldI_s, s1_0, s1_s, kx_i, kx_r, kx_s, kx_n, kx_l, kx_0, I_add, s_goto, true_and, and_true, Nat.le_refl, true_implies, forall_const, not_false_eq_true, false_implies, not_true_eq_false, reduceCtorEq, tl_s, tl_n, rf_s, List.cons_append, List.nil_append, true_or, or_true, b2', ex_ix (i := k) (n := 20) (by omega), upd_ui, em]
      refine ih (k + 1) _ _ (ui B k u) _ _ _ _ _ _ (by omega) (a2.ne _ (fun q => hab q.symm)) (h_at _ b2') (c2.ne _ hbc) (fun i hi9 => ?_) (p2.st _ hb)
      by_cases e : i = k
      · rw [e, ui_s, ui_s, ui_s]
        exact ⟨hv, hu, rfl⟩
      · obtain ⟨g1, g2, g3⟩ := hi i (by omega)
        rw [ui_n _ _ e, ui_n _ _ e]
        refine ⟨g1, g2, ?_⟩
        by_cases e2 : i / 2 = k / 2
        · rw [e2, ui_s]
        · rw [ui_n _ _ e2]; exact g3
    have K106 : ∀ v : Int, v = (if (sg W.1.1 (k / 2)).2 = true then -1 else ep W.1.1 k) → G Law_welded d 3 50 3 50 106 [some (.ref 0), some (.int (I r)), some (.ref a), some (.ref b), some (.ref c), some (.int (I (W.1.1.length : Int))), some (.int (I (k : Int))), some (.int (I ((k / 2 : Nat) : Int))), some (.int (I (sz (sg W.1.1 (k / 2)).2))), x9, x10, x11] [.int (I v), .int (I (k : Int)), .ref a] h1 Q := by
      intro v hv
      have p2 := p1.st (.inl (0, 20, fun i => I (ui E k v i))) ha
      have a2 : ary (h1.set a (.inl (0, 20, fun i => I (ui E k v i)))) a 20 (ui E k v) := h_at _ a1'
      have b2 := b1.ne (.inl (0, 20, fun i => I (ui E k v i))) hab
      have c2 := c1.ne (.inl (0, 20, fun i => I (ui E k v i))) hac
      have c2' : (h1.set a (.inl (0, 20, fun i => I (ui E k v i))))[c]? = some (.inl (0, 10, fun i => I (ui Z (k / 2) ((sg W.1.1 (k / 2)).1.length : Int) i))) := c2
      by_cases z : (sg W.1.1 (k / 2)).2 = true
      · have ez : sz (sg W.1.1 (k / 2)).2 = 1 := if_pos z
        rw [ez] at K143 ⊢
        refine B_Law_welded_106 ?_
        simp only [wp_cons, wp_nil, List.getElem?_cons_zero, List.getElem?_cons_succ, List.set_cons_zero, List.set_cons_succ, s_iastore, iiR_s, ia_s, s_aload_n3, ldA_r, ldA_n, ldA_s, s_iload, ldI_s, s_ifCond_eq, p1_s, true_and, and_true, Nat.le_refl, true_implies, forall_const, not_false_eq_true, false_implies, not_true_eq_false, reduceCtorEq, tl_s, tl_n, rf_s, List.cons_append, List.nil_append, true_or, or_true, a1', ex_ix (i := k) (n := 20) (by omega), upd_ui]
        refine b_eq (by omega) (by omega) (fun cc => absurd cc (by omega)) (fun cc => ?_)
        refine B_Law_welded_115 ?_
        simp only [wp_cons, wp_nil, List.getElem?_cons_zero, List.getElem?_cons_succ, List.set_cons_zero, List.set_cons_succ, s_iconst, s_goto, true_and, and_true, Nat.le_refl, true_implies, forall_const, not_false_eq_true, false_implies, not_true_eq_false, reduceCtorEq, tl_s, tl_n, rf_s, List.cons_append, List.nil_append, true_or, or_true, a1', ex_ix (i := k) (n := 20) (by omega), upd_ui]
        exact K143 v (-1) _ hv (fun q => by rw [q] at z; cases z) a2 b2 c2 p2
      · have ez : sz (sg W.1.1 (k / 2)).2 = 0 := if_neg z
        rw [ez] at K143 ⊢
        rcases Nat.mod_two_eq_zero_or_one k with hm | hm
        · refine B_Law_welded_106 ?_
          simp only [wp_cons, wp_nil, List.getElem?_cons_zero, List.getElem?_cons_succ, List.set_cons_zero, List.set_cons_succ, s_iastore, iiR_s, ia_s, s_aload_n3, ldA_r, ldA_n, ldA_s, s_iload, ldI_s, s_ifCond_eq, p1_s, true_and, and_true, Nat.le_refl, true_implies, forall_const, not_false_eq_true, false_implies, not_true_eq_false, reduceCtorEq, tl_s, tl_n, rf_s, List.cons_append, List.nil_append, true_or, or_true, a1', ex_ix (i := k) (n := 20) (by omega), upd_ui, I_hf (show k < 1000 by omega), I_md (show k < 1000 by omega), I_md' (show k < 1000 by omega), hm, ka, hc1, Int.natCast_zero]
          refine B_Law_welded_119 ?_
          simp only [wp_cons, wp_nil, List.getElem?_cons_zero, List.getElem?_cons_succ, List.set_cons_zero, List.set_cons_succ, s_aload_n0, ldA_r, ldA_n, ldA_s, s_iload, ldI_s, s_iconst, s_irem, p2_s, ne_k1000, ne_k2, s_ifCond_ne, p1_s, true_and, and_true, Nat.le_refl, true_implies, forall_const, not_false_eq_true, false_implies, not_true_eq_false, reduceCtorEq, tl_s, tl_n, rf_s, List.cons_append, List.nil_append, true_or, or_true, a1', ex_ix (i := k) (n := 20) (by omega), upd_ui, I_hf (show k < 1000 by omega), I_md (show k < 1000 by omega), I_md' (show k < 1000 by omega), hm, ka, hc1, Int.natCast_zero]
          refine B_Law_welded_129 ?_
          simp only [wp_cons, wp_nil, List.getElem?_cons_zero, List.getElem?_cons_succ, List.set_cons_zero, List.set_cons_succ, s_iconst, s_goto, true_and, and_true, Nat.le_refl, true_implies, forall_const, not_false_eq_true, false_implies, not_true_eq_false, reduceCtorEq, tl_s, tl_n, rf_s, List.cons_append, List.nil_append, true_or, or_true, a1', ex_ix (i := k) (n := 20) (by omega), upd_ui, I_hf (show k < 1000 by omega), I_md (show k < 1000 by omega), I_md' (show k < 1000 by omega), hm, ka, hc1, Int.natCast_zero]
          refine B_Law_welded_140 ?_
          simp only [wp_cons, wp_nil, List.getElem?_cons_zero, List.getElem?_cons_succ, List.set_cons_zero, List.set_cons_succ, s_invokevirtual, rc_s, ob_s, List.drop_succ_cons, List.drop_zero, List.take_succ_cons, List.take_zero, List.reverse_cons, List.reverse_nil, List.nil_append, List.cons_append, List.length_cons, List.length_nil, d1, Int.reduceToNat, Nat.reduceAdd, Nat.reduceLeDiff, true_and, and_true, Nat.le_refl, true_implies, forall_const, not_false_eq_true, false_implies, not_true_eq_false, reduceCtorEq, tl_s, tl_n, rf_s, true_or, or_true, a1', ex_ix (i := k) (n := 20) (by omega), upd_ui, I_hf (show k < 1000 by omega), I_md (show k < 1000 by omega), I_md' (show k < 1000 by omega), hm, ka, hc1, Int.natCast_zero]
          refine Pens_point_c (by omega) w p2 (by omega) (by omega) ?_
          rw [sp_point_1 hs (by omega)]
          exact K143 v _ _ hv (fun q => by unfold eb; rw [if_pos hm]) a2 b2 c2 p2
        · refine B_Law_welded_106 ?_
          simp only [wp_cons, wp_nil, List.getElem?_cons_zero, List.getElem?_cons_succ, List.set_cons_zero, List.set_cons_succ, s_iastore, iiR_s, ia_s, s_aload_n3, ldA_r, ldA_n, ldA_s, s_iload, ldI_s, s_ifCond_eq, p1_s, true_and, and_true, Nat.le_refl, true_implies, forall_const, not_false_eq_true, false_implies, not_true_eq_false, reduceCtorEq, tl_s, tl_n, rf_s, List.cons_append, List.nil_append, true_or, or_true, a1', ex_ix (i := k) (n := 20) (by omega), upd_ui, I_hf (show k < 1000 by omega), I_md (show k < 1000 by omega), I_md' (show k < 1000 by omega), hm, ka, hc1, kac, c1', ex_ix (i := k / 2) (n := 10) (by omega), zk, em2, Int.natCast_one]
          refine B_Law_welded_119 ?_
          simp only [wp_cons, wp_nil, List.getElem?_cons_zero, List.getElem?_cons_succ, List.set_cons_zero, List.set_cons_succ, s_aload_n0, ldA_r, ldA_n, ldA_s, s_iload, ldI_s, s_iconst, s_irem, p2_s, ne_k1000, ne_k2, s_ifCond_ne, p1_s, true_and, and_true, Nat.le_refl, true_implies, forall_const, not_false_eq_true, false_implies, not_true_eq_false, reduceCtorEq, tl_s, tl_n, rf_s, List.cons_append, List.nil_append, true_or, or_true, a1', ex_ix (i := k) (n := 20) (by omega), upd_ui, I_hf (show k < 1000 by omega), I_md (show k < 1000 by omega), I_md' (show k < 1000 by omega), hm, ka, hc1, kac, c1', ex_ix (i := k / 2) (n := 10) (by omega), zk, em2, Int.natCast_one]
          refine b_ne (by omega) (by omega) (fun cc => ?_) (fun cc => absurd cc (by omega))
          refine B_Law_welded_133 ?_
          simp only [wp_cons, wp_nil, List.getElem?_cons_zero, List.getElem?_cons_succ, List.set_cons_zero, List.set_cons_succ, s_aload, ldA_r, ldA_n, ldA_s, s_iload, ldI_s, s_iaload, iR_s, ia_s, s_iconst, s_isub, p2_s, I_sub, true_and, and_true, Nat.le_refl, true_implies, forall_const, not_false_eq_true, false_implies, not_true_eq_false, reduceCtorEq, tl_s, tl_n, rf_s, List.cons_append, List.nil_append, true_or, or_true, a1', ex_ix (i := k) (n := 20) (by omega), upd_ui, I_hf (show k < 1000 by omega), I_md (show k < 1000 by omega), I_md' (show k < 1000 by omega), hm, ka, hc1, kac, c1', ex_ix (i := k / 2) (n := 10) (by omega), zk, em2, Int.natCast_one]
          refine B_Law_welded_140 ?_
          simp only [wp_cons, wp_nil, List.getElem?_cons_zero, List.getElem?_cons_succ, List.set_cons_zero, List.set_cons_succ, s_invokevirtual, rc_s, ob_s, List.drop_succ_cons, List.drop_zero, List.take_succ_cons, List.take_zero, List.reverse_cons, List.reverse_nil, List.nil_append, List.cons_append, List.length_cons, List.length_nil, d1, Int.reduceToNat, Nat.reduceAdd, Nat.reduceLeDiff, true_and, and_true, Nat.le_refl, true_implies, forall_const, not_false_eq_true, false_implies, not_true_eq_false, reduceCtorEq, tl_s, tl_n, rf_s, true_or, or_true, a1', ex_ix (i := k) (n := 20) (by omega), upd_ui, I_hf (show k < 1000 by omega), I_md (show k < 1000 by omega), I_md' (show k < 1000 by omega), hm, ka, hc1, kac, c1', ex_ix (i := k / 2) (n := 10) (by omega), zk, em2, Int.natCast_one]
          refine Pens_point_c (by omega) w p2 (by omega) (by omega) ?_
          rw [sp_point_k hs (by omega)]
          exact K143 v _ _ hv (fun q => by unfold eb; rw [if_neg (by omega)]) a2 b2 c2 p2
    have K68 : G Law_welded d 3 50 3 50 68 [some (.ref 0), some (.int (I r)), some (.ref a), some (.ref b), some (.ref c), some (.int (I (W.1.1.length : Int))), some (.int (I (k : Int))), some (.int (I ((k / 2 : Nat) : Int))), x8, x9, x10, x11] [.int (I (sz (sg W.1.1 (k / 2)).2))] h1 Q := by
      by_cases z : (sg W.1.1 (k / 2)).2 = true
      · have ez : sz (sg W.1.1 (k / 2)).2 = 1 := if_pos z
        rw [ez] at K106 ⊢
        refine B_Law_welded_68 ?_
        simp only [wp_cons, wp_nil, List.getElem?_cons_zero, List.getElem?_cons_succ, List.set_cons_zero, List.set_cons_succ, s_istore, p1_s, s1_0, s1_s, kx_i, kx_r, kx_s, kx_n, kx_l, kx_0, s_aload_n2, ldA_r, ldA_n, ldA_s, s_iload, ldI_s, s_ifCond_eq, true_and, and_true, Nat.le_refl, true_implies, forall_const, not_false_eq_true, false_implies, not_true_eq_false, reduceCtorEq, tl_s, tl_n, rf_s, List.cons_append, List.nil_append, true_or, or_true, hcr', ex_ix (i := k / 2) (n := 10) (by omega), upd_ui, k0, hc9]
        refine b_eq (by omega) (by omega) (fun cc => absurd cc (by omega)) (fun cc => ?_)
        refine B_Law_welded_78 ?_
        simp only [wp_cons, wp_nil, List.getElem?_cons_zero, List.getElem?_cons_succ, List.set_cons_zero, List.set_cons_succ, s_iconst, s_goto, true_and, and_true, Nat.le_refl, true_implies, forall_const, not_false_eq_true, false_implies, not_true_eq_false, reduceCtorEq, tl_s, tl_n, rf_s, List.cons_append, List.nil_append, true_or, or_true, hcr', ex_ix (i := k / 2) (n := 10) (by omega), upd_ui, k0, hc9]
        exact K106 _ (if_pos z).symm
      · have ez : sz (sg W.1.1 (k / 2)).2 = 0 := if_neg z
        rw [ez] at K106 ⊢
        rcases Nat.mod_two_eq_zero_or_one k with hm | hm
        · refine B_Law_welded_68 ?_
          simp only [wp_cons, wp_nil, List.getElem?_cons_zero, List.getElem?_cons_succ, List.set_cons_zero, List.set_cons_succ, s_istore, p1_s, s1_0, s1_s, kx_i, kx_r, kx_s, kx_n, kx_l, kx_0, s_aload_n2, ldA_r, ldA_n, ldA_s, s_iload, ldI_s, s_ifCond_eq, true_and, and_true, Nat.le_refl, true_implies, forall_const, not_false_eq_true, false_implies, not_true_eq_false, reduceCtorEq, tl_s, tl_n, rf_s, List.cons_append, List.nil_append, true_or, or_true, I_hf (show k < 1000 by omega), I_md (show k < 1000 by omega), I_md' (show k < 1000 by omega), hm, hc1, Int.natCast_zero]
          refine B_Law_welded_82 ?_
          simp only [wp_cons, wp_nil, List.getElem?_cons_zero, List.getElem?_cons_succ, List.set_cons_zero, List.set_cons_succ, s_aload_n0, ldA_r, ldA_n, ldA_s, s_iload, ldI_s, s_iconst, s_irem, p2_s, ne_k1000, ne_k2, s_ifCond_ne, p1_s, true_and, and_true, Nat.le_refl, true_implies, forall_const, not_false_eq_true, false_implies, not_true_eq_false, reduceCtorEq, tl_s, tl_n, rf_s, List.cons_append, List.nil_append, true_or, or_true, I_hf (show k < 1000 by omega), I_md (show k < 1000 by omega), I_md' (show k < 1000 by omega), hm, hc1, Int.natCast_zero]
          refine B_Law_welded_92 ?_
          simp only [wp_cons, wp_nil, List.getElem?_cons_zero, List.getElem?_cons_succ, List.set_cons_zero, List.set_cons_succ, s_iconst, s_goto, true_and, and_true, Nat.le_refl, true_implies, forall_const, not_false_eq_true, false_implies, not_true_eq_false, reduceCtorEq, tl_s, tl_n, rf_s, List.cons_append, List.nil_append, true_or, or_true, I_hf (show k < 1000 by omega), I_md (show k < 1000 by omega), I_md' (show k < 1000 by omega), hm, hc1, Int.natCast_zero]
          refine B_Law_welded_103 ?_
          simp only [wp_cons, wp_nil, List.getElem?_cons_zero, List.getElem?_cons_succ, List.set_cons_zero, List.set_cons_succ, s_invokevirtual, rc_s, ob_s, List.drop_succ_cons, List.drop_zero, List.take_succ_cons, List.take_zero, List.reverse_cons, List.reverse_nil, List.nil_append, List.cons_append, List.length_cons, List.length_nil, d1, Int.reduceToNat, Nat.reduceAdd, Nat.reduceLeDiff, true_and, and_true, Nat.le_refl, true_implies, forall_const, not_false_eq_true, false_implies, not_true_eq_false, reduceCtorEq, tl_s, tl_n, rf_s, true_or, or_true, I_hf (show k < 1000 by omega), I_md (show k < 1000 by omega), I_md' (show k < 1000 by omega), hm, hc1, Int.natCast_zero]
          refine Pens_point_c (by omega) w p1 (by omega) (by omega) ?_
          rw [sp_point_0 hs (by omega)]
          exact K106 _ (by rw [if_neg z]; unfold ep eI; rw [if_pos hm])
        · refine B_Law_welded_68 ?_
          simp only [wp_cons, wp_nil, List.getElem?_cons_zero, List.getElem?_cons_succ, List.set_cons_zero, List.set_cons_succ, s_istore, p1_s, s1_0, s1_s, kx_i, kx_r, kx_s, kx_n, kx_l, kx_0, s_aload_n2, ldA_r, ldA_n, ldA_s, s_iload, ldI_s, s_ifCond_eq, true_and, and_true, Nat.le_refl, true_implies, forall_const, not_false_eq_true, false_implies, not_true_eq_false, reduceCtorEq, tl_s, tl_n, rf_s, List.cons_append, List.nil_append, true_or, or_true, I_hf (show k < 1000 by omega), I_md (show k < 1000 by omega), I_md' (show k < 1000 by omega), hm, hc1, c1', ex_ix (i := k / 2) (n := 10) (by omega), zk, em1, Int.natCast_one]
          refine B_Law_welded_82 ?_
          simp only [wp_cons, wp_nil, List.getElem?_cons_zero, List.getElem?_cons_succ, List.set_cons_zero, List.set_cons_succ, s_aload_n0, ldA_r, ldA_n, ldA_s, s_iload, ldI_s, s_iconst, s_irem, p2_s, ne_k1000, ne_k2, s_ifCond_ne, p1_s, true_and, and_true, Nat.le_refl, true_implies, forall_const, not_false_eq_true, false_implies, not_true_eq_false, reduceCtorEq, tl_s, tl_n, rf_s, List.cons_append, List.nil_append, true_or, or_true, I_hf (show k < 1000 by omega), I_md (show k < 1000 by omega), I_md' (show k < 1000 by omega), hm, hc1, c1', ex_ix (i := k / 2) (n := 10) (by omega), zk, em1, Int.natCast_one]
          refine b_ne (by omega) (by omega) (fun cc => ?_) (fun cc => absurd cc (by omega))
          refine B_Law_welded_96 ?_
          simp only [wp_cons, wp_nil, List.getElem?_cons_zero, List.getElem?_cons_succ, List.set_cons_zero, List.set_cons_succ, s_aload, ldA_r, ldA_n, ldA_s, s_iload, ldI_s, s_iaload, iR_s, ia_s, s_iconst, s_isub, p2_s, I_sub, true_and, and_true, Nat.le_refl, true_implies, forall_const, not_false_eq_true, false_implies, not_true_eq_false, reduceCtorEq, tl_s, tl_n, rf_s, List.cons_append, List.nil_append, true_or, or_true, I_hf (show k < 1000 by omega), I_md (show k < 1000 by omega), I_md' (show k < 1000 by omega), hm, hc1, c1', ex_ix (i := k / 2) (n := 10) (by omega), zk, em1, Int.natCast_one]
          refine B_Law_welded_103 ?_
          simp only [wp_cons, wp_nil, List.getElem?_cons_zero, List.getElem?_cons_succ, List.set_cons_zero, List.set_cons_succ, s_invokevirtual, rc_s, ob_s, List.drop_succ_cons, List.drop_zero, List.take_succ_cons, List.take_zero, List.reverse_cons, List.reverse_nil, List.nil_append, List.cons_append, List.length_cons, List.length_nil, d1, Int.reduceToNat, Nat.reduceAdd, Nat.reduceLeDiff, true_and, and_true, Nat.le_refl, true_implies, forall_const, not_false_eq_true, false_implies, not_true_eq_false, reduceCtorEq, tl_s, tl_n, rf_s, true_or, or_true, I_hf (show k < 1000 by omega), I_md (show k < 1000 by omega), I_md' (show k < 1000 by omega), hm, hc1, c1', ex_ix (i := k / 2) (n := 10) (by omega), zk, em1, Int.natCast_one]
          refine Pens_point_c (by omega) w p1 (by omega) (by omega) ?_
          rw [sp_point_k hs (by omega)]
          exact K106 _ (by rw [if_neg z]; unfold ep eI; rw [if_neg (by omega)])
    by_cases z : (sg W.1.1 (k / 2)).2 = true
    · have ez : sz (sg W.1.1 (k / 2)).2 = 1 := if_pos z
      rw [ez] at K68 ⊢
      refine B_Law_welded_59 ?_
      simp only [wp_cons, wp_nil, List.getElem?_cons_zero, List.getElem?_cons_succ, List.set_cons_zero, List.set_cons_succ, s_iconst, s_if_icmp_ne, p2_s, true_and, and_true, Nat.le_refl, true_implies, forall_const, not_false_eq_true, false_implies, not_true_eq_false, reduceCtorEq, tl_s, tl_n, rf_s, List.cons_append, List.nil_append, true_or, or_true, hcr', ex_ix (i := k / 2) (n := 10) (by omega), upd_ui, k0, hc9]
      refine B_Law_welded_63 ?_
      simp only [wp_cons, wp_nil, List.getElem?_cons_zero, List.getElem?_cons_succ, List.set_cons_zero, List.set_cons_succ, s_iconst, s_goto, true_and, and_true, Nat.le_refl, true_implies, forall_const, not_false_eq_true, false_implies, not_true_eq_false, reduceCtorEq, tl_s, tl_n, rf_s, List.cons_append, List.nil_append, true_or, or_true, hcr', ex_ix (i := k / 2) (n := 10) (by omega), upd_ui, k0, hc9]
      exact K68
    · have ez : sz (sg W.1.1 (k / 2)).2 = 0 := if_neg z
      rw [ez] at K68 ⊢
      refine B_Law_welded_59 ?_
      simp only [wp_cons, wp_nil, List.getElem?_cons_zero, List.getElem?_cons_succ, List.set_cons_zero, List.set_cons_succ, s_iconst, s_if_icmp_ne, p2_s, true_and, and_true, Nat.le_refl, true_implies, forall_const, not_false_eq_true, false_implies, not_true_eq_false, reduceCtorEq, tl_s, tl_n, rf_s, List.cons_append, List.nil_append, true_or, or_true, hcr', ex_ix (i := k / 2) (n := 10) (by omega), upd_ui, k0, hc9]
      refine b_ne (by omega) (by omega) (fun cc => ?_) (fun cc => absurd cc (by omega))
      refine B_Law_welded_67 ?_
      simp only [wp_cons, wp_nil, List.getElem?_cons_zero, List.getElem?_cons_succ, List.set_cons_zero, List.set_cons_succ, s_iconst, true_and, and_true, Nat.le_refl, true_implies, forall_const, not_false_eq_true, false_implies, not_true_eq_false, reduceCtorEq, tl_s, tl_n, rf_s, List.cons_append, List.nil_append, true_or, or_true, hcr', ex_ix (i := k / 2) (n := 10) (by omega), upd_ui, k0, hc9]
      exact K68
theorem lin.w {Ts : List Stk} {E B Z : Nat → Int} (h : lin Ts (2 * Ts.length) E B Z) : lwr Ts E B Z :=
  ⟨fun k hk => (h k hk).1, fun k hk _ => (h k hk.1).2.1 hk.2, fun i hi => by have := (h (2 * i) (by omega)).2.2; rw [show 2 * i / 2 = i by omega] at this; exact this⟩
theorem Welded_end {d : Nat} (hd : 10 ≤ d) {r : Int} {Us : List Stk} {W : Wd} {a b c : Nat} {E Z : Nat → Int} {h : g_H} {Q : g_Po} (w : wfW W) (hU : W.1.1 = Us) (hp : pens h 0 W) (har : ary h a 20 E) (hcr : ary h c 10 Z) (hE : ∀ k, k < 2 * Us.length → E k = if (sg Us (k / 2)).2 = true then -1 else ep Us k) (hZ : ∀ i, i < Us.length → Z i = ((sg Us i).1.length : Int)) (hQ : Q (some (.int (I 1))) h) {z6 : Int32} {x8 x9 x10 x11 : Option Value} : ∀ (m k : Nat), k + m = 2 * Us.length → G Law_welded d 3 50 3 50 505 [some (.ref 0), some (.int (I r)), some (.ref a), some (.ref b), some (.ref c), some (.int (I (Us.length : Int))), some (.int z6), some (.int (I (k : Int))), x8, x9, x10, x11] [] h Q := by
  have d1 : 1 ≤ d := by omega
  subst hU
  have wl : W.1.1.length ≤ 10 := w.1.1.1
  have e2l : (2 : Int) * (W.1.1.length : Int) = ((2 * W.1.1.length : Nat) : Int) := by omega
  intro m
  induction m with
  | zero =>
    intro k hk
    obtain rfl : k = 2 * W.1.1.length := by omega
    refine B_Law_welded_505 ?_
    simp only [wp_cons, wp_nil, List.getElem?_cons_zero, List.getElem?_cons_succ, List.set_cons_zero, List.set_cons_succ, s_iload, ldI_s, s_iconst, s_imul, p2_s, I_mul, s_if_icmp_ge, true_and, and_true, Nat.le_refl, true_implies, forall_const, not_false_eq_true, false_implies, not_true_eq_false, reduceCtorEq, tl_s, tl_n, rf_s, List.cons_append, List.nil_append, true_or, or_true, e2l]
    refine b_le (by omega) (by omega) (fun cc => ?_) (fun cc => absurd cc (by omega))
    refine B_Law_welded_583 ?_
    simp only [wp_cons, wp_nil, List.getElem?_cons_zero, List.getElem?_cons_succ, List.set_cons_zero, List.set_cons_succ, s_iconst, s_ireturn, p1_s, rI_i, rI_z, rI_c, z_01, z_11, rt_Law_welded, true_and, and_true, Nat.le_refl, true_implies, forall_const, not_false_eq_true, false_implies, not_true_eq_false, reduceCtorEq, tl_s, tl_n, rf_s, List.cons_append, List.nil_append, true_or, or_true, e2l]
    exact hQ
  | succ m ih =>
    intro k hk
    have hs : k / 2 < W.1.1.length := by omega
    have wS := w.1.1.2 (k / 2) hs
    have w1 := wS.1
    have w2 := wS.2.1
    obtain ⟨fs, hc9⟩ := hp.at6
    have har' : h[a]? = some (.inl (0, 20, fun i => I (E i))) := har
    have hcr' : h[c]? = some (.inl (0, 10, fun i => I (Z i))) := hcr
    have ez9 := hZ (k / 2) hs
    have ek := hE k (by omega)
    have nx := ih (k + 1) (by omega)
    have em : (k : Int) + 1 = ((k + 1 : Nat) : Int) := by omega
    refine B_Law_welded_505 ?_
    simp only [wp_cons, wp_nil, List.getElem?_cons_zero, List.getElem?_cons_succ, List.set_cons_zero, List.set_cons_succ, s_iload, ldI_s, s_iconst, s_imul, p2_s, I_mul, s_if_icmp_ge, true_and, and_true, Nat.le_refl, true_implies, forall_const, not_false_eq_true, false_implies, not_true_eq_false, reduceCtorEq, tl_s, tl_n, rf_s, List.cons_append, List.nil_append, true_or, or_true, hc9, e2l, I_hf (show k < 1000 by omega)]
    refine b_le (by omega) (by omega) (fun cc => absurd cc (by omega)) (fun cc => ?_)
    refine B_Law_welded_514 ?_
    simp only [wp_cons, wp_nil, List.getElem?_cons_zero, List.getElem?_cons_succ, List.set_cons_zero, List.set_cons_succ, s_aload_n0, ldA_r, ldA_n, ldA_s, s_iload, ldI_s, s_iconst, s_idiv, p2_s, ne_k1000, ne_k2, s_invokevirtual, rc_s, ob_s, List.drop_succ_cons, List.drop_zero, List.take_succ_cons, List.take_zero, List.reverse_cons, List.reverse_nil, List.nil_append, List.cons_append, List.length_cons, List.length_nil, d1, Int.reduceToNat, Nat.reduceAdd, Nat.reduceLeDiff, true_and, and_true, Nat.le_refl, true_implies, forall_const, not_false_eq_true, false_implies, not_true_eq_false, reduceCtorEq, tl_s, tl_n, rf_s, true_or, or_true, hc9, e2l, I_hf (show k < 1000 by omega)]
    refine Pens_of_c (by omega) w hp (by omega) (by omega) ?_
    rw [sp_of_0 hs]
    by_cases z : (sg W.1.1 (k / 2)).2 = true
    · rw [if_pos z] at ek
      refine B_Law_welded_523 ?_
      simp only [wp_cons, wp_nil, List.getElem?_cons_zero, List.getElem?_cons_succ, List.set_cons_zero, List.set_cons_succ, s_aload, ldA_r, ldA_n, ldA_s, s_iload, ldI_s, s_iconst, s_idiv, p2_s, ne_k1000, ne_k2, s_iaload, iR_s, ia_s, s_if_icmp_ne, true_and, and_true, Nat.le_refl, true_implies, forall_const, not_false_eq_true, false_implies, not_true_eq_false, reduceCtorEq, tl_s, tl_n, rf_s, List.cons_append, List.nil_append, true_or, or_true, hcr', har', ex_ix (i := k / 2) (n := 10) (by omega), ex_ix (i := k) (n := 20) (by omega), I_hf (show k < 1000 by omega), ez9, ek]
      refine B_Law_welded_533 ?_
      simp only [wp_cons, wp_nil, List.getElem?_cons_zero, List.getElem?_cons_succ, List.set_cons_zero, List.set_cons_succ, s_aload_n2, ldA_r, ldA_n, ldA_s, s_iload, ldI_s, s_iaload, iR_s, ia_s, s_ifCond_lt, p1_s, true_and, and_true, Nat.le_refl, true_implies, forall_const, not_false_eq_true, false_implies, not_true_eq_false, reduceCtorEq, tl_s, tl_n, rf_s, List.cons_append, List.nil_append, true_or, or_true, hcr', har', ex_ix (i := k / 2) (n := 10) (by omega), ex_ix (i := k) (n := 20) (by omega), I_hf (show k < 1000 by omega), ez9, ek]
      refine b_lt (by omega) (by omega) (fun cc => ?_) (fun cc => absurd cc (by omega))
      refine B_Law_welded_577 ?_
      simp only [wp_cons, wp_nil, List.getElem?_cons_zero, List.getElem?_cons_succ, List.set_cons_zero, List.set_cons_succ, s_iinc, ldI_s, s1_0, s1_s, kx_i, kx_r, kx_s, kx_n, kx_l, kx_0, I_add, s_goto, true_and, and_true, Nat.le_refl, true_implies, forall_const, not_false_eq_true, false_implies, not_true_eq_false, reduceCtorEq, tl_s, tl_n, rf_s, List.cons_append, List.nil_append, true_or, or_true, hcr', har', ex_ix (i := k / 2) (n := 10) (by omega), ex_ix (i := k) (n := 20) (by omega), I_hf (show k < 1000 by omega), ez9, ek]
      exact nx
    · rw [if_neg z] at ek
      have ep0 : pt (ep W.1.1 k) := by
        obtain ⟨g1, g2, g3⟩ := wfD_e w.1.1 (e := k) ⟨by omega, by simpa using z⟩
        exact g2
      have em1 : ((sg W.1.1 (k / 2)).1.length : Int) - 1 = (((sg W.1.1 (k / 2)).1.length - 1 : Nat) : Int) := by omega
      rcases Nat.mod_two_eq_zero_or_one k with hm | hm
      · refine B_Law_welded_523 ?_
        simp only [wp_cons, wp_nil, List.getElem?_cons_zero, List.getElem?_cons_succ, List.set_cons_zero, List.set_cons_succ, s_aload, ldA_r, ldA_n, ldA_s, s_iload, ldI_s, s_iconst, s_idiv, p2_s, ne_k1000, ne_k2, s_iaload, iR_s, ia_s, s_if_icmp_ne, true_and, and_true, Nat.le_refl, true_implies, forall_const, not_false_eq_true, false_implies, not_true_eq_false, reduceCtorEq, tl_s, tl_n, rf_s, List.cons_append, List.nil_append, true_or, or_true, hc9, hcr', har', ex_ix (i := k / 2) (n := 10) (by omega), ex_ix (i := k) (n := 20) (by omega), I_hf (show k < 1000 by omega), I_md (show k < 1000 by omega), I_md' (show k < 1000 by omega), hm, ez9, ek, Int.natCast_zero]
        refine B_Law_welded_533 ?_
        simp only [wp_cons, wp_nil, List.getElem?_cons_zero, List.getElem?_cons_succ, List.set_cons_zero, List.set_cons_succ, s_aload_n2, ldA_r, ldA_n, ldA_s, s_iload, ldI_s, s_iaload, iR_s, ia_s, s_ifCond_lt, p1_s, true_and, and_true, Nat.le_refl, true_implies, forall_const, not_false_eq_true, false_implies, not_true_eq_false, reduceCtorEq, tl_s, tl_n, rf_s, List.cons_append, List.nil_append, true_or, or_true, hc9, hcr', har', ex_ix (i := k / 2) (n := 10) (by omega), ex_ix (i := k) (n := 20) (by omega), I_hf (show k < 1000 by omega), I_md (show k < 1000 by omega), I_md' (show k < 1000 by omega), hm, ez9, ek, Int.natCast_zero]
        refine b_lt (by omega) (by omega) (fun cc => absurd cc (by omega)) (fun cc => ?_)
        refine B_Law_welded_540 ?_
        simp only [wp_cons, wp_nil, List.getElem?_cons_zero, List.getElem?_cons_succ, List.set_cons_zero, List.set_cons_succ, s_aload_n0, ldA_r, ldA_n, ldA_s, s_iload, ldI_s, s_iconst, s_idiv, p2_s, ne_k1000, ne_k2, s_irem, s_ifCond_ne, p1_s, true_and, and_true, Nat.le_refl, true_implies, forall_const, not_false_eq_true, false_implies, not_true_eq_false, reduceCtorEq, tl_s, tl_n, rf_s, List.cons_append, List.nil_append, true_or, or_true, hc9, hcr', har', ex_ix (i := k / 2) (n := 10) (by omega), ex_ix (i := k) (n := 20) (by omega), I_hf (show k < 1000 by omega), I_md (show k < 1000 by omega), I_md' (show k < 1000 by omega), hm, ez9, ek, Int.natCast_zero]
        refine B_Law_welded_552 ?_
        simp only [wp_cons, wp_nil, List.getElem?_cons_zero, List.getElem?_cons_succ, List.set_cons_zero, List.set_cons_succ, s_iconst, s_goto, true_and, and_true, Nat.le_refl, true_implies, forall_const, not_false_eq_true, false_implies, not_true_eq_false, reduceCtorEq, tl_s, tl_n, rf_s, List.cons_append, List.nil_append, true_or, or_true, hc9, hcr', har', ex_ix (i := k / 2) (n := 10) (by omega), ex_ix (i := k) (n := 20) (by omega), I_hf (show k < 1000 by omega), I_md (show k < 1000 by omega), I_md' (show k < 1000 by omega), hm, ez9, ek, Int.natCast_zero]
        refine B_Law_welded_565 ?_
        simp only [wp_cons, wp_nil, List.getElem?_cons_zero, List.getElem?_cons_succ, List.set_cons_zero, List.set_cons_succ, s_invokevirtual, rc_s, ob_s, List.drop_succ_cons, List.drop_zero, List.take_succ_cons, List.take_zero, List.reverse_cons, List.reverse_nil, List.nil_append, List.cons_append, List.length_cons, List.length_nil, d1, Int.reduceToNat, Nat.reduceAdd, Nat.reduceLeDiff, true_and, and_true, Nat.le_refl, true_implies, forall_const, not_false_eq_true, false_implies, not_true_eq_false, reduceCtorEq, tl_s, tl_n, rf_s, true_or, or_true, hc9, hcr', har', ex_ix (i := k / 2) (n := 10) (by omega), ex_ix (i := k) (n := 20) (by omega), I_hf (show k < 1000 by omega), I_md (show k < 1000 by omega), I_md' (show k < 1000 by omega), hm, ez9, ek, Int.natCast_zero]
        refine Pens_point_c (by omega) w hp (by omega) (by omega) ?_
        rw [sp_point_0 hs (by omega), show pg (sg W.1.1 (k / 2)).1 0 = ep W.1.1 k by unfold ep eI; rw [if_pos hm]]
        refine B_Law_welded_568 ?_
        simp only [wp_cons, wp_nil, List.getElem?_cons_zero, List.getElem?_cons_succ, List.set_cons_zero, List.set_cons_succ, s_aload_n2, ldA_r, ldA_n, ldA_s, s_iload, ldI_s, s_iaload, iR_s, ia_s, s_if_icmp_eq, p2_s, true_and, and_true, Nat.le_refl, true_implies, forall_const, not_false_eq_true, false_implies, not_true_eq_false, reduceCtorEq, tl_s, tl_n, rf_s, List.cons_append, List.nil_append, true_or, or_true, hc9, hcr', har', ex_ix (i := k / 2) (n := 10) (by omega), ex_ix (i := k) (n := 20) (by omega), I_hf (show k < 1000 by omega), I_md (show k < 1000 by omega), I_md' (show k < 1000 by omega), hm, ez9, ek, Int.natCast_zero]
        refine B_Law_welded_577 ?_
        simp only [wp_cons, wp_nil, List.getElem?_cons_zero, List.getElem?_cons_succ, List.set_cons_zero, List.set_cons_succ, s_iinc, ldI_s, s1_0, s1_s, kx_i, kx_r, kx_s, kx_n, kx_l, kx_0, I_add, s_goto, true_and, and_true, Nat.le_refl, true_implies, forall_const, not_false_eq_true, false_implies, not_true_eq_false, reduceCtorEq, tl_s, tl_n, rf_s, List.cons_append, List.nil_append, true_or, or_true, hc9, hcr', har', ex_ix (i := k / 2) (n := 10) (by omega), ex_ix (i := k) (n := 20) (by omega), I_hf (show k < 1000 by omega), I_md (show k < 1000 by omega), I_md' (show k < 1000 by omega), hm, ez9, ek, Int.natCast_zero]
        exact nx
      · refine B_Law_welded_523 ?_
        simp only [wp_cons, wp_nil, List.getElem?_cons_zero, List.getElem?_cons_succ, List.set_cons_zero, List.set_cons_succ, s_aload, ldA_r, ldA_n, ldA_s, s_iload, ldI_s, s_iconst, s_idiv, p2_s, ne_k1000, ne_k2, s_iaload, iR_s, ia_s, s_if_icmp_ne, true_and, and_true, Nat.le_refl, true_implies, forall_const, not_false_eq_true, false_implies, not_true_eq_false, reduceCtorEq, tl_s, tl_n, rf_s, List.cons_append, List.nil_append, true_or, or_true, hc9, hcr', har', ex_ix (i := k / 2) (n := 10) (by omega), ex_ix (i := k) (n := 20) (by omega), I_hf (show k < 1000 by omega), I_md (show k < 1000 by omega), I_md' (show k < 1000 by omega), hm, ez9, ek, em1, Int.natCast_one]
        refine B_Law_welded_533 ?_
        simp only [wp_cons, wp_nil, List.getElem?_cons_zero, List.getElem?_cons_succ, List.set_cons_zero, List.set_cons_succ, s_aload_n2, ldA_r, ldA_n, ldA_s, s_iload, ldI_s, s_iaload, iR_s, ia_s, s_ifCond_lt, p1_s, true_and, and_true, Nat.le_refl, true_implies, forall_const, not_false_eq_true, false_implies, not_true_eq_false, reduceCtorEq, tl_s, tl_n, rf_s, List.cons_append, List.nil_append, true_or, or_true, hc9, hcr', har', ex_ix (i := k / 2) (n := 10) (by omega), ex_ix (i := k) (n := 20) (by omega), I_hf (show k < 1000 by omega), I_md (show k < 1000 by omega), I_md' (show k < 1000 by omega), hm, ez9, ek, em1, Int.natCast_one]
        refine b_lt (by omega) (by omega) (fun cc => absurd cc (by omega)) (fun cc => ?_)
        refine B_Law_welded_540 ?_
        simp only [wp_cons, wp_nil, List.getElem?_cons_zero, List.getElem?_cons_succ, List.set_cons_zero, List.set_cons_succ, s_aload_n0, ldA_r, ldA_n, ldA_s, s_iload, ldI_s, s_iconst, s_idiv, p2_s, ne_k1000, ne_k2, s_irem, s_ifCond_ne, p1_s, true_and, and_true, Nat.le_refl, true_implies, forall_const, not_false_eq_true, false_implies, not_true_eq_false, reduceCtorEq, tl_s, tl_n, rf_s, List.cons_append, List.nil_append, true_or, or_true, hc9, hcr', har', ex_ix (i := k / 2) (n := 10) (by omega), ex_ix (i := k) (n := 20) (by omega), I_hf (show k < 1000 by omega), I_md (show k < 1000 by omega), I_md' (show k < 1000 by omega), hm, ez9, ek, em1, Int.natCast_one]
        refine b_ne (by omega) (by omega) (fun cc => ?_) (fun cc => absurd cc (by omega))
        refine B_Law_welded_556 ?_
        simp only [wp_cons, wp_nil, List.getElem?_cons_zero, List.getElem?_cons_succ, List.set_cons_zero, List.set_cons_succ, s_aload, ldA_r, ldA_n, ldA_s, s_iload, ldI_s, s_iconst, s_idiv, p2_s, ne_k1000, ne_k2, s_iaload, iR_s, ia_s, s_isub, I_sub, true_and, and_true, Nat.le_refl, true_implies, forall_const, not_false_eq_true, false_implies, not_true_eq_false, reduceCtorEq, tl_s, tl_n, rf_s, List.cons_append, List.nil_append, true_or, or_true, hc9, hcr', har', ex_ix (i := k / 2) (n := 10) (by omega), ex_ix (i := k) (n := 20) (by omega), I_hf (show k < 1000 by omega), I_md (show k < 1000 by omega), I_md' (show k < 1000 by omega), hm, ez9, ek, em1, Int.natCast_one]
        refine B_Law_welded_565 ?_
        simp only [wp_cons, wp_nil, List.getElem?_cons_zero, List.getElem?_cons_succ, List.set_cons_zero, List.set_cons_succ, s_invokevirtual, rc_s, ob_s, List.drop_succ_cons, List.drop_zero, List.take_succ_cons, List.take_zero, List.reverse_cons, List.reverse_nil, List.nil_append, List.cons_append, List.length_cons, List.length_nil, d1, Int.reduceToNat, Nat.reduceAdd, Nat.reduceLeDiff, true_and, and_true, Nat.le_refl, true_implies, forall_const, not_false_eq_true, false_implies, not_true_eq_false, reduceCtorEq, tl_s, tl_n, rf_s, true_or, or_true, hc9, hcr', har', ex_ix (i := k / 2) (n := 10) (by omega), ex_ix (i := k) (n := 20) (by omega), I_hf (show k < 1000 by omega), I_md (show k < 1000 by omega), I_md' (show k < 1000 by omega), hm, ez9, ek, em1, Int.natCast_one]
        refine Pens_point_c (by omega) w hp (by omega) (by omega) ?_
        rw [sp_point_k hs (by omega), show pg (sg W.1.1 (k / 2)).1 ((sg W.1.1 (k / 2)).1.length - 1) = ep W.1.1 k by unfold ep eI; rw [if_neg (by omega)]]
        refine B_Law_welded_568 ?_
        simp only [wp_cons, wp_nil, List.getElem?_cons_zero, List.getElem?_cons_succ, List.set_cons_zero, List.set_cons_succ, s_aload_n2, ldA_r, ldA_n, ldA_s, s_iload, ldI_s, s_iaload, iR_s, ia_s, s_if_icmp_eq, p2_s, true_and, and_true, Nat.le_refl, true_implies, forall_const, not_false_eq_true, false_implies, not_true_eq_false, reduceCtorEq, tl_s, tl_n, rf_s, List.cons_append, List.nil_append, true_or, or_true, hc9, hcr', har', ex_ix (i := k / 2) (n := 10) (by omega), ex_ix (i := k) (n := 20) (by omega), I_hf (show k < 1000 by omega), I_md (show k < 1000 by omega), I_md' (show k < 1000 by omega), hm, ez9, ek, em1, Int.natCast_one]
        refine B_Law_welded_577 ?_
        simp only [wp_cons, wp_nil, List.getElem?_cons_zero, List.getElem?_cons_succ, List.set_cons_zero, List.set_cons_succ, s_iinc, ldI_s, s1_0, s1_s, kx_i, kx_r, kx_s, kx_n, kx_l, kx_0, I_add, s_goto, true_and, and_true, Nat.le_refl, true_implies, forall_const, not_false_eq_true, false_implies, not_true_eq_false, reduceCtorEq, tl_s, tl_n, rf_s, List.cons_append, List.nil_append, true_or, or_true, hc9, hcr', har', ex_ix (i := k / 2) (n := 10) (by omega), ex_ix (i := k) (n := 20) (by omega), I_hf (show k < 1000 by omega), I_md (show k < 1000 by omega), I_md' (show k < 1000 by omega), hm, ez9, ek, em1, Int.natCast_one]
        exact nx
theorem Law_welded_c {d : Nat} (hd : 10 ≤ d) {r : Int} (hr : 1 ≤ r ∧ r ≤ 30) {W : Wd} {h : g_H} {Q : g_Po} (w : wfW W) (hp : pens h 0 W) (hl : 208 ≤ h.length) (hQ : ∀ h' W', wfW W' → W'.1.2 = W.1.2 → pens h' 0 W' → 208 ≤ h'.length → Q (some (.int (I 1))) h') : Call Law_welded d 3 50 [.ref 0, .int (I r)] h Q := by
  have d1 : 1 ≤ d := by omega
  have wl : W.1.1.length ≤ 10 := w.1.1.1
  obtain ⟨fs, hc⟩ := hp.at6
  have z9 : ∀ x : g_C, (h ++ [x])[0]? = some (.inr (.inr (6, fs))) := fun x => (ap_l x (by omega)).trans hc
  have z8 : ∀ x y : g_C, (h ++ [x] ++ [y])[0]? = some (.inr (.inr (6, fs))) := fun x y => (ap_l y (by rw [len_ap]; omega)).trans (z9 x)
  have z7 : ∀ x y z : g_C, (h ++ [x] ++ [y] ++ [z])[0]? = some (.inr (.inr (6, fs))) := fun x y z => (ap_l z (by rw [len_ap, len_ap]; omega)).trans (z8 x y)
  refine Call.intro (by rfl) (Nat.le_of_ble_eq_true rfl) ?_
  refine G.eqL (L := [some (.ref 0), some (.int (I r)), none, none, none, none, none, none, none, none, none, none]) rfl ?_
  refine B_Law_welded_0 ?_
  simp only [wp_cons, wp_nil, List.getElem?_cons_zero, List.getElem?_cons_succ, List.set_cons_zero, List.set_cons_succ, s_bipush, s_newarray, p1_s, s_astore_n2, pA_r, pA_n, s1_0, s1_s, kx_i, kx_r, kx_s, kx_n, kx_l, kx_0, s_astore_n3, s_astore, s_aload_n0, ldA_r, ldA_n, ldA_s, s_invokevirtual, rc_s, ob_s, List.drop_succ_cons, List.drop_zero, List.take_succ_cons, List.take_zero, List.reverse_cons, List.reverse_nil, List.nil_append, List.cons_append, List.length_cons, List.length_nil, d1, Int.reduceToNat, Nat.reduceAdd, Nat.reduceLeDiff, true_and, and_true, Nat.le_refl, true_implies, forall_const, not_false_eq_true, false_implies, not_true_eq_false, reduceCtorEq, tl_s, tl_n, rf_s, true_or, or_true, z7, I_cast 20 20 rfl, I_cast 10 10 rfl, len_ap, Nat.reduceLT, Nat.zero_le]
  have p1 := hp.ap (.inl (0, 20, fun _ => I 0)) hl
  have p2 := p1.ap (.inl (0, 20, fun _ => I 0)) (by rw [len_ap]; omega)
  have p3 := p2.ap (.inl (0, 10, fun _ => I 0)) (by rw [len_ap, len_ap]; omega)
  have a3 : ary (h ++ [.inl (0, 20, fun _ => I 0)] ++ [.inl (0, 20, fun _ => I 0)] ++ [.inl (0, 10, fun _ => I 0)]) h.length 20 (fun _ => 0) := ((ary.new rfl).ap _).ap _
  have b3 : ary (h ++ [.inl (0, 20, fun _ => I 0)] ++ [.inl (0, 20, fun _ => I 0)] ++ [.inl (0, 10, fun _ => I 0)]) (h.length + 1) 20 (fun _ => 0) := (ary.new (len_ap _ _).symm).ap _
  have c3 : ary (h ++ [.inl (0, 20, fun _ => I 0)] ++ [.inl (0, 20, fun _ => I 0)] ++ [.inl (0, 10, fun _ => I 0)]) (h.length + 2) 10 (fun _ => 0) := ary.new (by rw [len_ap, len_ap])
  generalize h ++ [.inl (0, 20, fun _ => I 0)] ++ [.inl (0, 20, fun _ => I 0)] ++ [.inl (0, 10, fun _ => I 0)] = h3 at p3 a3 b3 c3 ⊢
  refine Pens_strokes_c p3 ?_
  rw [show (sp_strokes W).1 = (W.1.1.length : Int) from rfl]
  refine B_Law_welded_20 ?_
  simp only [wp_cons, wp_nil, List.getElem?_cons_zero, List.getElem?_cons_succ, List.set_cons_zero, List.set_cons_succ, s_istore, p1_s, s1_0, s1_s, kx_i, kx_r, kx_s, kx_n, kx_l, kx_0, s_iconst, true_and, and_true, Nat.le_refl, true_implies, forall_const, not_false_eq_true, false_implies, not_true_eq_false, reduceCtorEq, tl_s, tl_n, rf_s, List.cons_append, List.nil_append, true_or, or_true, z7, I_cast 20 20 rfl, I_cast 10 10 rfl, len_ap, Nat.reduceLT, Nat.reduceAdd, Nat.reduceLeDiff, Nat.zero_le]
  refine Welded_lay hd w hl (show 208 ≤ h.length + 1 by omega) (show 208 ≤ h.length + 2 by omega) (by omega) (by omega) (by omega) (fun h4 E B Z y7 y8 y9 y10 y11 a4 b4 c4 i4 p4 => ?_) (2 * W.1.1.length) 0 h3 _ _ _ _ _ _ _ _ (by omega) a3 b3 c3 (fun i hi => by omega) p3
  have wok := weldF_ok (r := r) w.1.1
  have wsh := wit_ok _ _ _ w.1.1 wok
  have hlen : W.1.1.length = (weldF r W.1.1).2.length := wsh.2.1.1
  refine B_Law_welded_150 ?_
  simp only [wp_cons, wp_nil, List.getElem?_cons_zero, List.getElem?_cons_succ, List.set_cons_zero, List.set_cons_succ, s_iconst, s_istore, p1_s, s1_0, s1_s, kx_i, kx_r, kx_s, kx_n, kx_l, kx_0, true_and, and_true, Nat.le_refl, true_implies, forall_const, not_false_eq_true, false_implies, not_true_eq_false, reduceCtorEq, tl_s, tl_n, rf_s, List.cons_append, List.nil_append, true_or, or_true, z7, I_cast 20 20 rfl, I_cast 10 10 rfl, len_ap, Nat.reduceLT, Nat.reduceAdd, Nat.reduceLeDiff, Nat.zero_le]
  refine Welded_loop hd hr (Us := (weldF r W.1.1).2) (n0 := (weldF r W.1.1).1) hl (show 208 ≤ h.length + 1 by omega) (show 208 ≤ h.length + 2 by omega) (by omega) (by omega) (fun h5 E5 y7 y8 y9 y10 y11 a5 b5 c5 w5 p5 => ?_) (weldF r W.1.1).1 W.1.1 h4 E 0 _ _ _ _ _ (by omega) w.1.1 wok hlen a4 b4 c4 i4.w p4
  obtain ⟨fs5, hc5⟩ := p5.at6
  refine B_Law_welded_481 ?_
  simp only [wp_cons, wp_nil, List.getElem?_cons_zero, List.getElem?_cons_succ, List.set_cons_zero, List.set_cons_succ, s_aload_n0, ldA_r, ldA_n, ldA_s, s_iload_n1, ldI_s, s_invokevirtual, rc_s, ob_s, List.drop_succ_cons, List.drop_zero, List.take_succ_cons, List.take_zero, List.reverse_cons, List.reverse_nil, List.nil_append, List.cons_append, List.length_cons, List.length_nil, d1, Int.reduceToNat, Nat.reduceAdd, Nat.reduceLeDiff, true_and, and_true, Nat.le_refl, true_implies, forall_const, not_false_eq_true, false_implies, not_true_eq_false, reduceCtorEq, tl_s, tl_n, rf_s, true_or, or_true, hc5]
  refine Pens_weld_c (by omega) w p5 (by omega) (fun h6 c6 p6 => ?_)
  have w6 := kp_weld w r
  have es : sp_weld W r = (((weldF r W.1.1).1 : Int), setD W (weldF r W.1.1).2) := if_neg (fun q => q (by omega))
  rw [es] at p6 w6 ⊢
  obtain ⟨fs6, hc6⟩ := p6.at6
  have a6 := a5.un c6.un hl (show h.length ≠ 0 by omega)
  have c6' := c5.un c6.un (show 208 ≤ h.length + 2 by omega) (show h.length + 2 ≠ 0 by omega)
  refine B_Law_welded_486 ?_
  simp only [wp_cons, wp_nil, List.getElem?_cons_zero, List.getElem?_cons_succ, List.set_cons_zero, List.set_cons_succ, s_iload, ldI_s, s_if_icmp_ne, p2_s, true_and, and_true, Nat.le_refl, true_implies, forall_const, not_false_eq_true, false_implies, not_true_eq_false, reduceCtorEq, tl_s, tl_n, rf_s, List.cons_append, List.nil_append, true_or, or_true, hc6]
  refine B_Law_welded_491 ?_
  simp only [wp_cons, wp_nil, List.getElem?_cons_zero, List.getElem?_cons_succ, List.set_cons_zero, List.set_cons_succ, s_aload_n0, ldA_r, ldA_n, ldA_s, s_invokevirtual, rc_s, ob_s, List.drop_succ_cons, List.drop_zero, List.take_succ_cons, List.take_zero, List.reverse_cons, List.reverse_nil, List.nil_append, List.cons_append, List.length_cons, List.length_nil, d1, Int.reduceToNat, Nat.reduceAdd, Nat.reduceLeDiff, true_and, and_true, Nat.le_refl, true_implies, forall_const, not_false_eq_true, false_implies, not_true_eq_false, reduceCtorEq, tl_s, tl_n, rf_s, true_or, or_true, hc6]
  refine Pens_strokes_c p6 ?_
  rw [show (sp_strokes (setD W (weldF r W.1.1).2)).1 = ((weldF r W.1.1).2.length : Int) from rfl]
  refine B_Law_welded_495 ?_
  simp only [wp_cons, wp_nil, List.getElem?_cons_zero, List.getElem?_cons_succ, List.set_cons_zero, List.set_cons_succ, s_iload, ldI_s, s_if_icmp_eq, p2_s, true_and, and_true, Nat.le_refl, true_implies, forall_const, not_false_eq_true, false_implies, not_true_eq_false, reduceCtorEq, tl_s, tl_n, rf_s, List.cons_append, List.nil_append, true_or, or_true, hc6]
  refine B_Law_welded_502 ?_
  simp only [wp_cons, wp_nil, List.getElem?_cons_zero, List.getElem?_cons_succ, List.set_cons_zero, List.set_cons_succ, s_iconst, s_istore, p1_s, s1_0, s1_s, kx_i, kx_r, kx_s, kx_n, kx_l, kx_0, true_and, and_true, Nat.le_refl, true_implies, forall_const, not_false_eq_true, false_implies, not_true_eq_false, reduceCtorEq, tl_s, tl_n, rf_s, List.cons_append, List.nil_append, true_or, or_true, hc6]
  exact Welded_end (Us := (weldF r W.1.1).2) hd w6 rfl p6 a6 c6' w5.1 w5.2.2 (hQ h6 _ w6 rfl p6 (by have := (List.getElem?_eq_some_iff.mp a6).1; omega)) (2 * (weldF r W.1.1).2.length) 0 (Nat.zero_add _)
