/-! ===== the law: welded, the scan and the loop ===== -/
theorem Welded_scan {d : Nat} (hd : 10 ≤ d) {r : Int} (hr : 1 ≤ r ∧ r ≤ 30) {Ts : List Stk} {a b c : Nat} {E B Z : Nat → Int} {h : g_H} {Q : g_Po} (w : wfD Ts) (har : ary h a 20 E) (hbr : ary h b 20 B) (hcr : ary h c 10 Z) (hw : lwr Ts E B Z) {z6 : Int32} (hO : ∀ (f s : Int) (x10 x11 : Option Value), ((f = -1 ∧ s = -1 ∧ ¬ ∃ p q, wv r Ts p q) ∨ (∃ p q : Nat, f = p ∧ s = q ∧ wb r Ts p q)) → G Law_welded d 3 50 3 50 412 [some (.ref 0), some (.int (I r)), some (.ref a), some (.ref b), some (.ref c), some (.int (I (Ts.length : Int))), some (.int z6), some (.int (I f)), some (.int (I s)), some (.int (I ((2 * Ts.length : Nat) : Int))), x10, x11] [] h Q) : ∀ (m i : Nat) (f s : Int) (x10 x11 : Option Value), i + m = 2 * Ts.length → lsc r Ts i (i + 1) f s → G Law_welded d 3 50 3 50 162 [some (.ref 0), some (.int (I r)), some (.ref a), some (.ref b), some (.ref c), some (.int (I (Ts.length : Int))), some (.int z6), some (.int (I f)), some (.int (I s)), some (.int (I (i : Int))), x10, x11] [] h Q := by
  have d1 : 1 ≤ d := by omega
  have wl : Ts.length ≤ 10 := w.1
  have har' : h[a]? = some (.inl (0, 20, fun i => I (E i))) := har
  have hbr' : h[b]? = some (.inl (0, 20, fun i => I (B i))) := hbr
  have hcr' : h[c]? = some (.inl (0, 10, fun i => I (Z i))) := hcr
  have e2l : (2 : Int) * (Ts.length : Int) = ((2 * Ts.length : Nat) : Int) := by omega
  intro m
  induction m with
  | zero =>
    intro i f s x10 x11 hi hv
    obtain rfl : i = 2 * Ts.length := by omega
    refine B_Law_welded_162 ?_
    simp only [wp_cons, wp_nil, List.getElem?_cons_zero, List.getElem?_cons_succ, List.set_cons_zero, List.set_cons_succ, s_iload, ldI_s, s_iconst, s_imul, p2_s, I_mul, s_if_icmp_ge, true_and, and_true, Nat.le_refl, true_implies, forall_const, not_false_eq_true, false_implies, not_true_eq_false, reduceCtorEq, tl_s, tl_n, rf_s, List.cons_append, List.nil_append, true_or, or_true, e2l]
    refine b_le (by omega) (by omega) (fun cc => ?_) (fun cc => absurd cc (by omega))
    exact hO f s _ _ (hv.fin (Nat.le_refl _))
  | succ m ih =>
    intro i f s x10 x11 hi hv
    refine B_Law_welded_162 ?_
    simp only [wp_cons, wp_nil, List.getElem?_cons_zero, List.getElem?_cons_succ, List.set_cons_zero, List.set_cons_succ, s_iload, ldI_s, s_iconst, s_imul, p2_s, I_mul, s_if_icmp_ge, true_and, and_true, Nat.le_refl, true_implies, forall_const, not_false_eq_true, false_implies, not_true_eq_false, reduceCtorEq, tl_s, tl_n, rf_s, List.cons_append, List.nil_append, true_or, or_true, e2l]
    refine b_le (by omega) (by omega) (fun cc => absurd cc (by omega)) (fun cc => ?_)
    refine B_Law_welded_171 ?_
    simp only [wp_cons, wp_nil, List.getElem?_cons_zero, List.getElem?_cons_succ, List.set_cons_zero, List.set_cons_succ, s_iload, ldI_s, s_iconst, s_iadd, p2_s, I_add, s_istore, p1_s, s1_0, s1_s, kx_i, kx_r, kx_s, kx_n, kx_l, kx_0, true_and, and_true, Nat.le_refl, true_implies, forall_const, not_false_eq_true, false_implies, not_true_eq_false, reduceCtorEq, tl_s, tl_n, rf_s, List.cons_append, List.nil_append, true_or, or_true, e2l]
    refine Welded_row hd hr w har hbr hcr hw (show i < 2 * Ts.length by omega) (fun f' s' y11 hv' => ?_) (2 * Ts.length - (i + 1)) (i + 1) f s _ (by omega) (by omega) hv
    refine B_Law_welded_406 ?_
    simp only [wp_cons, wp_nil, List.getElem?_cons_zero, List.getElem?_cons_succ, List.set_cons_zero, List.set_cons_succ, s_iinc, ldI_s, s1_0, s1_s, kx_i, kx_r, kx_s, kx_n, kx_l, kx_0, I_add, s_goto, true_and, and_true, Nat.le_refl, true_implies, forall_const, not_false_eq_true, false_implies, not_true_eq_false, reduceCtorEq, tl_s, tl_n, rf_s, List.cons_append, List.nil_append, true_or, or_true, e2l]
    exact ih (i + 1) f' s' _ _ (by omega) hv'.row
theorem Welded_loop {d : Nat} (hd : 10 ≤ d) {r : Int} (hr : 1 ≤ r ∧ r ≤ 30) {a b c n0 : Nat} {B Z : Nat → Int} {Q : g_Po} {Us : List Stk} {W : Wd} (ha : 208 ≤ a) (hb : 208 ≤ b) (hc : 208 ≤ c) (hab : a ≠ b) (hac : a ≠ c) (hO : ∀ (h : g_H) (E : Nat → Int) (x7 x8 x9 x10 x11 : Option Value), ary h a 20 E → ary h b 20 B → ary h c 10 Z → lwr Us E B Z → pens h 0 W → G Law_welded d 3 50 3 50 481 [some (.ref 0), some (.int (I r)), some (.ref a), some (.ref b), some (.ref c), some (.int (I (Us.length : Int))), some (.int (I (n0 : Int))), x7, x8, x9, x10, x11] [] h Q) : ∀ (k : Nat) (Ts : List Stk) (h : g_H) (E : Nat → Int) (n : Nat) (x7 x8 x9 x10 x11 : Option Value), n + k = n0 → wfD Ts → wit r k Ts Us → Ts.length = Us.length → ary h a 20 E → ary h b 20 B → ary h c 10 Z → lwr Ts E B Z → pens h 0 W → G Law_welded d 3 50 3 50 153 [some (.ref 0), some (.int (I r)), some (.ref a), some (.ref b), some (.ref c), some (.int (I (Ts.length : Int))), some (.int (I (n : Int))), x7, x8, x9, x10, x11] [] h Q := by
  have d1 : 1 ≤ d := by omega
  intro k
  induction k with
  | zero =>
    intro Ts h E n x7 x8 x9 x10 x11 hn w hw9 hlen har hbr hcr hw hp
    obtain rfl : n = n0 := by omega
    obtain ⟨e9, hno⟩ := hw9
    subst e9
    refine B_Law_welded_153 ?_
    simp only [wp_cons, wp_nil, List.getElem?_cons_zero, List.getElem?_cons_succ, List.set_cons_zero, List.set_cons_succ, s_iconst, s_istore, p1_s, s1_0, s1_s, kx_i, kx_r, kx_s, kx_n, kx_l, kx_0, true_and, and_true, Nat.le_refl, true_implies, forall_const, not_false_eq_true, false_implies, not_true_eq_false, reduceCtorEq, tl_s, tl_n, rf_s, List.cons_append, List.nil_append, true_or, or_true]
    refine Welded_scan hd hr w har hbr hcr hw (fun f s y10 y11 hv => ?_) (2 * Us.length) 0 (-1) (-1) _ _ (by omega) (Or.inl ⟨rfl, rfl, fun i' j' hv hb => by have := hv.1; unfold lbf at hb; omega⟩)
    rcases hv with ⟨h1, h2, h3⟩ | ⟨p, q, h1, h2, h3⟩
    · subst h1
      refine B_Law_welded_412 ?_
      simp only [wp_cons, wp_nil, List.getElem?_cons_zero, List.getElem?_cons_succ, List.set_cons_zero, List.set_cons_succ, s_iload, ldI_s, s_ifCond_ge, p1_s, true_and, and_true, Nat.le_refl, true_implies, forall_const, not_false_eq_true, false_implies, not_true_eq_false, reduceCtorEq, tl_s, tl_n, rf_s, List.cons_append, List.nil_append, true_or, or_true]
      refine b_le (by omega) (by omega) (fun cc => absurd cc (by omega)) (fun cc => ?_)
      refine B_Law_welded_417 ?_
      simp only [wp_cons, wp_nil, List.getElem?_cons_zero, List.getElem?_cons_succ, List.set_cons_zero, List.set_cons_succ, s_goto, true_and, and_true, Nat.le_refl, true_implies, forall_const, not_false_eq_true, false_implies, not_true_eq_false, reduceCtorEq, tl_s, tl_n, rf_s, List.cons_append, List.nil_append, true_or, or_true]
      exact hO h E _ _ _ _ _ har hbr hcr hw hp
    · exact absurd ⟨p, q, h3.1⟩ hno
  | succ k ih =>
    intro Ts h E n x7 x8 x9 x10 x11 hn w hw9 hlen har hbr hcr hw hp
    obtain ⟨e, f0, hb9, hw9⟩ := hw9
    refine B_Law_welded_153 ?_
    simp only [wp_cons, wp_nil, List.getElem?_cons_zero, List.getElem?_cons_succ, List.set_cons_zero, List.set_cons_succ, s_iconst, s_istore, p1_s, s1_0, s1_s, kx_i, kx_r, kx_s, kx_n, kx_l, kx_0, true_and, and_true, Nat.le_refl, true_implies, forall_const, not_false_eq_true, false_implies, not_true_eq_false, reduceCtorEq, tl_s, tl_n, rf_s, List.cons_append, List.nil_append, true_or, or_true]
    refine Welded_scan hd hr w har hbr hcr hw (fun f s y10 y11 hv => ?_) (2 * Ts.length) 0 (-1) (-1) _ _ (by omega) (Or.inl ⟨rfl, rfl, fun i' j' hv hb => by have := hv.1; unfold lbf at hb; omega⟩)
    rcases hv with ⟨h1, h2, h3⟩ | ⟨p, q, rfl, rfl, h3⟩
    · exact absurd ⟨e, f0, hb9.1⟩ h3
    · obtain ⟨rfl, rfl⟩ := wb_un w h3 hb9
      have hv := h3.1
      have hpq := hv.1
      obtain ⟨p1, p2, -⟩ := wfD_e w hv.2.1
      obtain ⟨q1, q2, -⟩ := wfD_e w hv.2.2.1
      have ep9 := hw.e hv.2.1
      have eq9 := hw.e hv.2.2.1
      have har' : h[a]? = some (.inl (0, 20, fun i => I (E i))) := har
      have m1 : 1000 * ((ep Ts p / 1000 + ep Ts q / 1000) / 2) + (ep Ts p % 1000 + ep Ts q % 1000) / 2 = mid (ep Ts p) (ep Ts q) := rfl
      have hat : ∀ v, (h.set a v)[a]? = some v := fun v => h_at v har'
      have em : (n : Int) + 1 = ((n + 1 : Nat) : Int) := by omega
      refine B_Law_welded_412 ?_
      simp only [wp_cons, wp_nil, List.getElem?_cons_zero, List.getElem?_cons_succ, List.set_cons_zero, List.set_cons_succ, s_iload, ldI_s, s_ifCond_ge, p1_s, true_and, and_true, Nat.le_refl, true_implies, forall_const, not_false_eq_true, false_implies, not_true_eq_false, reduceCtorEq, tl_s, tl_n, rf_s, List.cons_append, List.nil_append, true_or, or_true, har', hat, ex_ix (i := p) (n := 20) (by omega), ex_ix (i := q) (n := 20) (by omega), ep9, eq9, I_div1000 p2, I_div1000 q2, I_rem_d p2, I_rem_d q2, I_rem_e p2, I_rem_e q2, I_hf2 (show 0 ≤ ep Ts p / 1000 + ep Ts q / 1000 ∧ ep Ts p / 1000 + ep Ts q / 1000 ≤ 100000 by omega), I_hf2 (show 0 ≤ ep Ts p % 1000 + ep Ts q % 1000 ∧ ep Ts p % 1000 + ep Ts q % 1000 ≤ 100000 by omega), m1, upd_same, upd_ui, ui_s, I_add, em]
      refine b_le (by omega) (by omega) (fun cc => ?_) (fun cc => absurd cc (by omega))
      refine B_Law_welded_420 ?_
      simp only [wp_cons, wp_nil, List.getElem?_cons_zero, List.getElem?_cons_succ, List.set_cons_zero, List.set_cons_succ, s_aload_n2, ldA_r, ldA_n, ldA_s, s_iload, ldI_s, s_sipush, s_iaload, iR_s, ia_s, s_idiv, p2_s, ne_k1000, ne_k2, s_iadd, I_add, s_iconst, s_imul, I_mul, s_irem, s_iastore, iiR_s, s_iinc, s1_0, s1_s, kx_i, kx_r, kx_s, kx_n, kx_l, kx_0, s_goto, true_and, and_true, Nat.le_refl, true_implies, forall_const, not_false_eq_true, false_implies, not_true_eq_false, reduceCtorEq, tl_s, tl_n, rf_s, List.cons_append, List.nil_append, true_or, or_true, har', hat, ex_ix (i := p) (n := 20) (by omega), ex_ix (i := q) (n := 20) (by omega), ep9, eq9, I_div1000 p2, I_div1000 q2, I_rem_d p2, I_rem_d q2, I_rem_e p2, I_rem_e q2, I_hf2 (show 0 ≤ ep Ts p / 1000 + ep Ts q / 1000 ∧ ep Ts p / 1000 + ep Ts q / 1000 ≤ 100000 by omega), I_hf2 (show 0 ≤ ep Ts p % 1000 + ep Ts q % 1000 ∧ ep Ts p % 1000 + ep Ts q % 1000 ≤ 100000 by omega), m1, upd_same, upd_ui, ui_s, em]
      have w2 := (wap_ok w hv).2.1
      have hl2 : (wap Ts p q).length = Ts.length := by unfold wap; rw [sete_len, sete_len]
      have har1 : ary (h.set a (.inl (0, 20, fun i => I (ui E p (mid (ep Ts p) (ep Ts q)) i)))) a 20 (ui E p (mid (ep Ts p) (ep Ts q))) := h_at _ har'
      have G9 := fun x7 x8 x9 x10 x11 => ih (wap Ts p q) _ _ (n + 1) x7 x8 x9 x10 x11 (by omega) w2 hw9 (by omega) (h_at (.inl (0, 20, fun i => I (ui (ui E p (mid (ep Ts p) (ep Ts q))) q (mid (ep Ts p) (ep Ts q)) i))) har1) ((hbr.ne _ hab).ne _ hab) ((hcr.ne _ hac).ne _ hac) (hw.wap w hv) ((hp.st _ ha).st _ ha)
      simp only [hl2] at G9
      exact G9 _ _ _ _ _
