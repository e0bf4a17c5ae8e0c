/-! ===== the law: same, the crossings of two strokes; all strokes ===== -/
theorem Same_row {d : Nat} (hd : 10 ≤ d) {S T : Stk} {a b k : Nat} {f g : Nat → Int} {h : g_H} {Q : g_Po} (wS : wfS S) (wT : wfS T) (har : ary h a 32 f) (hbr : ary h b 32 g) (t : tkn S f) (u : tkn T g) (hk : k < pcs S) {z1 z2 z5 z6 z7 z8 z9 z10 z11 z13 z14 z15 z16 z17 z18 z19 z20 z21 z22 z23 : Int32} {v0 : Int}
    (hO : ∀ v : Int, v = v0 + sm (fun i => c01 (pcr (pg S.1 k) (pr S.1 (k + 1)) (pg T.1 i) (pr T.1 (i + 1)))) (pcs T) → G Law_same d 2 64 2 64 803 [some (.ref 0), some (.int z1), some (.int z2), some (.ref a), some (.ref b), some (.int z5), some (.int z6), some (.int z7), some (.int z8), some (.int z9), some (.int z10), some (.int z11), some (.int (I (pcs S : Int))), some (.int z13), some (.int z14), some (.int z15), some (.int z16), some (.int z17), some (.int z18), some (.int z19), some (.int z20), some (.int z21), some (.int z22), some (.int z23), some (.int (I (pcs T : Int))), some (.int (I v)), some (.int (I (k : Int))), some (.int (I (pcs T : Int)))] [] h Q) :
    ∀ (m i : Nat) (v : Int), i + m = pcs T → v = v0 + sm (fun i => c01 (pcr (pg S.1 k) (pr S.1 (k + 1)) (pg T.1 i) (pr T.1 (i + 1)))) i → G Law_same d 2 64 2 64 752 [some (.ref 0), some (.int z1), some (.int z2), some (.ref a), some (.ref b), some (.int z5), some (.int z6), some (.int z7), some (.int z8), some (.int z9), some (.int z10), some (.int z11), some (.int (I (pcs S : Int))), some (.int z13), some (.int z14), some (.int z15), some (.int z16), some (.int z17), some (.int z18), some (.int z19), some (.int z20), some (.int z21), some (.int z22), some (.int z23), some (.int (I (pcs T : Int))), some (.int (I v)), some (.int (I (k : Int))), some (.int (I (i : Int)))] [] h Q := by
  have d1 : 1 ≤ d := by omega
  have hpc : pcs S ≤ S.1.length := pcs_le
  have hpt : pcs T ≤ T.1.length := pcs_le
  have w1 := wS.1
  have w2 := wS.2.1
  have w3 := wS.2.2.1
  have u1 := wT.1
  have u2 := wT.2.1
  have u3 := wT.2.2.1
  have har' : h[a]? = some (.inl (0, 32, fun i => I (f i))) := har
  have hbr' : h[b]? = some (.inl (0, 32, fun i => I (g i))) := hbr
  intro m
  induction m with
  | zero =>
    intro i v hi hv
    obtain rfl : i = pcs T := by omega
    refine B_Law_same_752 ?_
    simp only [wp_cons, wp_nil, List.getElem?_cons_zero, List.getElem?_cons_succ, List.set_cons_zero, List.set_cons_succ, s_iload, ldI_s, s_if_icmp_ge, p2_s, true_and, and_true, Nat.le_refl, true_implies, forall_const, not_false_eq_true, false_implies, not_true_eq_false, reduceCtorEq, tl_s, tl_n, rf_s, List.cons_append, List.nil_append, true_or, or_true]
    refine b_le (by omega) (by omega) (fun cc => ?_) (fun cc => absurd cc (by omega))
    exact hO v hv
  | succ m ih =>
    intro i v hi hv
    refine B_Law_same_752 ?_
    simp only [wp_cons, wp_nil, List.getElem?_cons_zero, List.getElem?_cons_succ, List.set_cons_zero, List.set_cons_succ, s_iload, ldI_s, s_if_icmp_ge, p2_s, true_and, and_true, Nat.le_refl, true_implies, forall_const, not_false_eq_true, false_implies, not_true_eq_false, reduceCtorEq, tl_s, tl_n, rf_s, List.cons_append, List.nil_append, true_or, or_true, har', hbr', ex_ix (i := i) (n := 32) (by omega), ex_ix (i := k) (n := 32) (by omega), ex_ie (x := (i : Int) + 1) (i := i + 1) (n := 32) (by omega) (by omega), ex_ie (x := (k : Int) + 1) (i := k + 1) (n := 32) (by omega) (by omega), u.k (k := i) (by omega), t.k (k := k) (by omega), u.r (k := i + 1) (by omega), t.r (k := k + 1) (by omega)]
    refine b_le (by omega) (by omega) (fun cc => absurd cc (by omega)) (fun cc => ?_)
    refine B_Law_same_759 ?_
    simp only [wp_cons, wp_nil, List.getElem?_cons_zero, List.getElem?_cons_succ, List.set_cons_zero, List.set_cons_succ, s_iload, ldI_s, s_aload_n3, ldA_r, ldA_n, ldA_s, s_iaload, iR_s, ia_s, s_iconst, s_iadd, p2_s, I_add, s_aload, s_invokestatic, rc_s, ob_s, List.drop_succ_cons, List.drop_zero, List.take_succ_cons, List.take_zero, List.reverse_cons, List.reverse_nil, List.nil_append, List.cons_append, List.length_cons, List.length_nil, Nat.reduceEqDiff, eq_self, reduceIte, p1_s, l1_s, d1, Int.reduceToNat, Nat.reduceAdd, Nat.reduceLeDiff, true_and, and_true, Nat.le_refl, true_implies, forall_const, not_false_eq_true, false_implies, not_true_eq_false, reduceCtorEq, tl_s, tl_n, rf_s, true_or, or_true, har', hbr', ex_ix (i := i) (n := 32) (by omega), ex_ix (i := k) (n := 32) (by omega), ex_ie (x := (i : Int) + 1) (i := i + 1) (n := 32) (by omega) (by omega), ex_ie (x := (k : Int) + 1) (i := k + 1) (n := 32) (by omega) (by omega), u.k (k := i) (by omega), t.k (k := k) (by omega), u.r (k := i + 1) (by omega), t.r (k := k + 1) (by omega)]
    refine Law_cross_c (by omega) (w3 k (by omega)) (pr_pt w3 (by omega)) (u3 i (by omega)) (pr_pt u3 (by omega)) (fun q => ?_) (fun q => ?_)
    · refine B_Law_same_786 ?_
      simp only [wp_cons, wp_nil, List.getElem?_cons_zero, List.getElem?_cons_succ, List.set_cons_zero, List.set_cons_succ, s_ifCond_eq, p1_s, true_and, and_true, Nat.le_refl, true_implies, forall_const, not_false_eq_true, false_implies, not_true_eq_false, reduceCtorEq, tl_s, tl_n, rf_s, List.cons_append, List.nil_append, true_or, or_true, har', hbr', ex_ix (i := i) (n := 32) (by omega), ex_ix (i := k) (n := 32) (by omega), ex_ie (x := (i : Int) + 1) (i := i + 1) (n := 32) (by omega) (by omega), ex_ie (x := (k : Int) + 1) (i := k + 1) (n := 32) (by omega) (by omega), u.k (k := i) (by omega), t.k (k := k) (by omega), u.r (k := i + 1) (by omega), t.r (k := k + 1) (by omega)]
      refine b_eq (by omega) (by omega) (fun cc => absurd cc (by omega)) (fun cc => ?_)
      refine B_Law_same_789 ?_
      simp only [wp_cons, wp_nil, List.getElem?_cons_zero, List.getElem?_cons_succ, List.set_cons_zero, List.set_cons_succ, s_iconst, s_goto, true_and, and_true, Nat.le_refl, true_implies, forall_const, not_false_eq_true, false_implies, not_true_eq_false, reduceCtorEq, tl_s, tl_n, rf_s, List.cons_append, List.nil_append, true_or, or_true, har', hbr', ex_ix (i := i) (n := 32) (by omega), ex_ix (i := k) (n := 32) (by omega), ex_ie (x := (i : Int) + 1) (i := i + 1) (n := 32) (by omega) (by omega), ex_ie (x := (k : Int) + 1) (i := k + 1) (n := 32) (by omega) (by omega), u.k (k := i) (by omega), t.k (k := k) (by omega), u.r (k := i + 1) (by omega), t.r (k := k + 1) (by omega)]
      refine B_Law_same_794 ?_
      simp only [wp_cons, wp_nil, List.getElem?_cons_zero, List.getElem?_cons_succ, List.set_cons_zero, List.set_cons_succ, s_iadd, p2_s, I_add, s_istore, p1_s, s1_0, s1_s, kx_i, kx_r, kx_s, kx_n, kx_l, kx_0, s_iinc, ldI_s, s_goto, true_and, and_true, Nat.le_refl, true_implies, forall_const, not_false_eq_true, false_implies, not_true_eq_false, reduceCtorEq, tl_s, tl_n, rf_s, List.cons_append, List.nil_append, true_or, or_true, har', hbr', ex_ix (i := i) (n := 32) (by omega), ex_ix (i := k) (n := 32) (by omega), ex_ie (x := (i : Int) + 1) (i := i + 1) (n := 32) (by omega) (by omega), ex_ie (x := (k : Int) + 1) (i := k + 1) (n := 32) (by omega) (by omega), u.k (k := i) (by omega), t.k (k := k) (by omega), u.r (k := i + 1) (by omega), t.r (k := k + 1) (by omega)]
      refine ih (i + 1) _ (by omega) ?_
      rw [hv, sm_s, show c01 (pcr (pg S.1 k) (pr S.1 (k + 1)) (pg T.1 i) (pr T.1 (i + 1))) = 1 from if_pos q]; omega
    · refine B_Law_same_786 ?_
      simp only [wp_cons, wp_nil, List.getElem?_cons_zero, List.getElem?_cons_succ, List.set_cons_zero, List.set_cons_succ, s_ifCond_eq, p1_s, true_and, and_true, Nat.le_refl, true_implies, forall_const, not_false_eq_true, false_implies, not_true_eq_false, reduceCtorEq, tl_s, tl_n, rf_s, List.cons_append, List.nil_append, true_or, or_true, har', hbr', ex_ix (i := i) (n := 32) (by omega), ex_ix (i := k) (n := 32) (by omega), ex_ie (x := (i : Int) + 1) (i := i + 1) (n := 32) (by omega) (by omega), ex_ie (x := (k : Int) + 1) (i := k + 1) (n := 32) (by omega) (by omega), u.k (k := i) (by omega), t.k (k := k) (by omega), u.r (k := i + 1) (by omega), t.r (k := k + 1) (by omega)]
      refine B_Law_same_793 ?_
      simp only [wp_cons, wp_nil, List.getElem?_cons_zero, List.getElem?_cons_succ, List.set_cons_zero, List.set_cons_succ, s_iconst, true_and, and_true, Nat.le_refl, true_implies, forall_const, not_false_eq_true, false_implies, not_true_eq_false, reduceCtorEq, tl_s, tl_n, rf_s, List.cons_append, List.nil_append, true_or, or_true, har', hbr', ex_ix (i := i) (n := 32) (by omega), ex_ix (i := k) (n := 32) (by omega), ex_ie (x := (i : Int) + 1) (i := i + 1) (n := 32) (by omega) (by omega), ex_ie (x := (k : Int) + 1) (i := k + 1) (n := 32) (by omega) (by omega), u.k (k := i) (by omega), t.k (k := k) (by omega), u.r (k := i + 1) (by omega), t.r (k := k + 1) (by omega)]
      refine B_Law_same_794 ?_
      simp only [wp_cons, wp_nil, List.getElem?_cons_zero, List.getElem?_cons_succ, List.set_cons_zero, List.set_cons_succ, s_iadd, p2_s, I_add, s_istore, p1_s, s1_0, s1_s, kx_i, kx_r, kx_s, kx_n, kx_l, kx_0, s_iinc, ldI_s, s_goto, true_and, and_true, Nat.le_refl, true_implies, forall_const, not_false_eq_true, false_implies, not_true_eq_false, reduceCtorEq, tl_s, tl_n, rf_s, List.cons_append, List.nil_append, true_or, or_true, har', hbr', ex_ix (i := i) (n := 32) (by omega), ex_ix (i := k) (n := 32) (by omega), ex_ie (x := (i : Int) + 1) (i := i + 1) (n := 32) (by omega) (by omega), ex_ie (x := (k : Int) + 1) (i := k + 1) (n := 32) (by omega) (by omega), u.k (k := i) (by omega), t.k (k := k) (by omega), u.r (k := i + 1) (by omega), t.r (k := k + 1) (by omega)]
      refine ih (i + 1) _ (by omega) ?_
      rw [hv, sm_s, show c01 (pcr (pg S.1 k) (pr S.1 (k + 1)) (pg T.1 i) (pr T.1 (i + 1))) = 0 from if_neg q]; omega
theorem Same_two {d : Nat} (hd : 10 ≤ d) {S T : Stk} {a b : Nat} {f g : Nat → Int} {h : g_H} {Q : g_Po} (wS : wfS S) (wT : wfS T) (har : ary h a 32 f) (hbr : ary h b 32 g) (t : tkn S f) (u : tkn T g) {z1 z2 z5 z6 z7 z8 z9 z10 z11 z13 z14 z15 z16 z17 z18 z19 z20 z21 z22 z23 : Int32}
    (hO : ∀ (v : Int) (x27 : Option Value), v = cyS S T (pcs S) → G Law_same d 2 64 2 64 809 [some (.ref 0), some (.int z1), some (.int z2), some (.ref a), some (.ref b), some (.int z5), some (.int z6), some (.int z7), some (.int z8), some (.int z9), some (.int z10), some (.int z11), some (.int (I (pcs S : Int))), some (.int z13), some (.int z14), some (.int z15), some (.int z16), some (.int z17), some (.int z18), some (.int z19), some (.int z20), some (.int z21), some (.int z22), some (.int z23), some (.int (I (pcs T : Int))), some (.int (I v)), some (.int (I (pcs S : Int))), x27] [] h Q) :
    ∀ (m k : Nat) (v : Int) (x27 : Option Value), k + m = pcs S → v = cyS S T k → G Law_same d 2 64 2 64 742 [some (.ref 0), some (.int z1), some (.int z2), some (.ref a), some (.ref b), some (.int z5), some (.int z6), some (.int z7), some (.int z8), some (.int z9), some (.int z10), some (.int z11), some (.int (I (pcs S : Int))), some (.int z13), some (.int z14), some (.int z15), some (.int z16), some (.int z17), some (.int z18), some (.int z19), some (.int z20), some (.int z21), some (.int z22), some (.int z23), some (.int (I (pcs T : Int))), some (.int (I v)), some (.int (I (k : Int))), x27] [] h Q := by
  have d1 : 1 ≤ d := by omega
  have hpc : pcs S ≤ S.1.length := pcs_le
  have hpt : pcs T ≤ T.1.length := pcs_le
  have w2 := wS.2.1
  have u2 := wT.2.1
  intro m
  induction m with
  | zero =>
    intro k v x27 hk hv
    obtain rfl : k = pcs S := by omega
    refine B_Law_same_742 ?_
    simp only [wp_cons, wp_nil, List.getElem?_cons_zero, List.getElem?_cons_succ, List.set_cons_zero, List.set_cons_succ, s_iload, ldI_s, s_if_icmp_ge, p2_s, true_and, and_true, Nat.le_refl, true_implies, forall_const, not_false_eq_true, false_implies, not_true_eq_false, reduceCtorEq, tl_s, tl_n, rf_s, List.cons_append, List.nil_append, true_or, or_true]
    refine b_le (by omega) (by omega) (fun cc => ?_) (fun cc => absurd cc (by omega))
    exact hO v _ hv
  | succ m ih =>
    intro k v x27 hk hv
    refine B_Law_same_742 ?_
    simp only [wp_cons, wp_nil, List.getElem?_cons_zero, List.getElem?_cons_succ, List.set_cons_zero, List.set_cons_succ, s_iload, ldI_s, s_if_icmp_ge, p2_s, true_and, and_true, Nat.le_refl, true_implies, forall_const, not_false_eq_true, false_implies, not_true_eq_false, reduceCtorEq, tl_s, tl_n, rf_s, List.cons_append, List.nil_append, true_or, or_true]
    refine b_le (by omega) (by omega) (fun cc => absurd cc (by omega)) (fun cc => ?_)
    refine B_Law_same_749 ?_
    simp only [wp_cons, wp_nil, List.getElem?_cons_zero, List.getElem?_cons_succ, List.set_cons_zero, List.set_cons_succ, s_iconst, s_istore, p1_s, s1_0, s1_s, kx_i, kx_r, kx_s, kx_n, kx_l, kx_0, true_and, and_true, Nat.le_refl, true_implies, forall_const, not_false_eq_true, false_implies, not_true_eq_false, reduceCtorEq, tl_s, tl_n, rf_s, List.cons_append, List.nil_append, true_or, or_true]
    refine Same_row hd wS wT har hbr t u (show k < pcs S by omega) (v0 := v) (fun v' hv' => ?_) (pcs T) 0 v (by omega) (by rw [sm_z]; omega)
    refine B_Law_same_803 ?_
    simp only [wp_cons, wp_nil, List.getElem?_cons_zero, List.getElem?_cons_succ, List.set_cons_zero, List.set_cons_succ, s_iinc, ldI_s, s1_0, s1_s, kx_i, kx_r, kx_s, kx_n, kx_l, kx_0, I_add, s_goto, true_and, and_true, Nat.le_refl, true_implies, forall_const, not_false_eq_true, false_implies, not_true_eq_false, reduceCtorEq, tl_s, tl_n, rf_s, List.cons_append, List.nil_append, true_or, or_true]
    refine ih (k + 1) _ _ (by omega) ?_
    rw [hv', hv]; rfl
theorem sp_cross_k {W : Wd} {s t : Nat} (hs : s < W.1.1.length) (ht : t < s) : (sp_cross W s t).1 = cyS (sg W.1.1 s) (sg W.1.1 t) (pcs (sg W.1.1 s)) ∧ (sp_cross W t s).1 = cyS (sg W.1.1 s) (sg W.1.1 t) (pcs (sg W.1.1 s)) := by
  unfold sp_cross
  constructor
  · show (if _ then _ else _) = _
    rw [if_neg (fun q => q ⟨⟨by omega, by omega⟩, by omega, by omega⟩), if_neg (by omega), tn_i, tn_i, cyS_1]
  · show (if _ then _ else _) = _
    rw [if_neg (fun q => q ⟨⟨by omega, by omega⟩, by omega, by omega⟩), if_neg (by omega), tn_i, tn_i, cyS_2]
theorem Same_others {d : Nat} (hd : 10 ≤ d) {W : Wd} {a b s : Nat} {f : Nat → Int} {Q : g_Po} (w : wfW W) (hs : s < W.1.1.length) (ha : 208 ≤ a) (hb : 208 ≤ b) (hab : a ≠ b) (t : tkn (sg W.1.1 s) f) {z1 z2 z5 z6 z7 z8 z10 z11 z13 z14 z15 z16 z17 z18 z19 z20 z21 : Int32}
    (hO : ∀ (h : g_H) (g : Nat → Int) (x22 x23 x24 x25 x26 x27 : Option Value), pens h 0 W → ary h a 32 f → ary h b 32 g → G Law_same d 2 64 2 64 843 [some (.ref 0), some (.int z1), some (.int z2), some (.ref a), some (.ref b), some (.int z5), some (.int z6), some (.int z7), some (.int z8), some (.int (I (s : Int))), some (.int z10), some (.int z11), some (.int (I (pcs (sg W.1.1 s) : Int))), some (.int z13), some (.int z14), some (.int z15), some (.int z16), some (.int z17), some (.int z18), some (.int z19), some (.int z20), some (.int z21), x22, x23, x24, x25, x26, x27] [] h Q) :
    ∀ (m i : Nat) (h : g_H) (g : Nat → Int) (x23 x24 x25 x26 x27 : Option Value), i + m = s → pens h 0 W → ary h a 32 f → ary h b 32 g → G Law_same d 2 64 2 64 697 [some (.ref 0), some (.int z1), some (.int z2), some (.ref a), some (.ref b), some (.int z5), some (.int z6), some (.int z7), some (.int z8), some (.int (I (s : Int))), some (.int z10), some (.int z11), some (.int (I (pcs (sg W.1.1 s) : Int))), some (.int z13), some (.int z14), some (.int z15), some (.int z16), some (.int z17), some (.int z18), some (.int z19), some (.int z20), some (.int z21), some (.int (I (i : Int))), x23, x24, x25, x26, x27] [] h Q := by
  have d1 : 1 ≤ d := by omega
  have wl : W.1.1.length ≤ 10 := w.1.1.1
  have wS := w.1.1.2 s hs
  intro m
  induction m with
  | zero =>
    intro i h g x23 x24 x25 x26 x27 hi hp har hbr
    refine B_Law_same_697 ?_
    simp only [wp_cons, wp_nil, List.getElem?_cons_zero, List.getElem?_cons_succ, List.set_cons_zero, List.set_cons_succ, s_iload, ldI_s, s_if_icmp_ge, p2_s, true_and, and_true, Nat.le_refl, true_implies, forall_const, not_false_eq_true, false_implies, not_true_eq_false, reduceCtorEq, tl_s, tl_n, rf_s, List.cons_append, List.nil_append, true_or, or_true]
    refine b_le (by omega) (by omega) (fun cc => ?_) (fun cc => absurd cc (by omega))
    exact hO _ _ _ _ _ _ _ _ hp har hbr
  | succ m ih =>
    intro i h g x23 x24 x25 x26 x27 hi hp har hbr
    have hi2 : i < W.1.1.length := by omega
    have wT := w.1.1.2 i hi2
    have u2 := wT.2.1
    have u1 := wT.1
    refine B_Law_same_697 ?_
    simp only [wp_cons, wp_nil, List.getElem?_cons_zero, List.getElem?_cons_succ, List.set_cons_zero, List.set_cons_succ, s_iload, ldI_s, s_if_icmp_ge, p2_s, true_and, and_true, Nat.le_refl, true_implies, forall_const, not_false_eq_true, false_implies, not_true_eq_false, reduceCtorEq, tl_s, tl_n, rf_s, List.cons_append, List.nil_append, true_or, or_true]
    refine b_le (by omega) (by omega) (fun cc => absurd cc (by omega)) (fun cc => ?_)
    refine B_Law_same_704 ?_
    simp only [wp_cons, wp_nil, List.getElem?_cons_zero, List.getElem?_cons_succ, List.set_cons_zero, List.set_cons_succ, s_aload_n0, ldA_r, ldA_n, ldA_s, s_iload, ldI_s, s_aload, s_invokestatic, rc_s, ob_s, List.drop_succ_cons, List.drop_zero, List.take_succ_cons, List.take_zero, List.reverse_cons, List.reverse_nil, List.nil_append, List.cons_append, List.length_cons, List.length_nil, Nat.reduceEqDiff, eq_self, reduceIte, p1_s, p2_s, l1_s, d1, Int.reduceToNat, Nat.reduceAdd, Nat.reduceLeDiff, true_and, and_true, Nat.le_refl, true_implies, forall_const, not_false_eq_true, false_implies, not_true_eq_false, reduceCtorEq, tl_s, tl_n, rf_s, true_or, or_true]
    refine Law_take_c (by omega) w hp hi2 hb hbr (fun h1 g1 c1 p1 b1 u => ?_)
    have a1 : ary h1 a 32 f := har.un c1 ha hab
    obtain ⟨fs, hc⟩ := p1.at6
    refine B_Law_same_712 ?_
    simp only [wp_cons, wp_nil, List.getElem?_cons_zero, List.getElem?_cons_succ, List.set_cons_zero, List.set_cons_succ, s_istore, p1_s, s1_0, s1_s, kx_i, kx_r, kx_s, kx_n, kx_l, kx_0, s_aload_n0, ldA_r, ldA_n, ldA_s, s_iload, ldI_s, s_iconst, s_invokevirtual, rc_s, ob_s, List.drop_succ_cons, List.drop_zero, List.take_succ_cons, List.take_zero, List.reverse_cons, List.reverse_nil, List.nil_append, List.cons_append, List.length_cons, List.length_nil, d1, Int.reduceToNat, Nat.reduceAdd, Nat.reduceLeDiff, true_and, and_true, Nat.le_refl, true_implies, forall_const, not_false_eq_true, false_implies, not_true_eq_false, reduceCtorEq, tl_s, tl_n, rf_s, true_or, or_true, hc]
    refine Pens_of_c (by omega) w p1 (by omega) (by omega) ?_
    rw [(sp_of_lit hi2).1]
    have K734 : G Law_same d 2 64 2 64 734 [some (.ref 0), some (.int z1), some (.int z2), some (.ref a), some (.ref b), some (.int z5), some (.int z6), some (.int z7), some (.int z8), some (.int (I (s : Int))), some (.int z10), some (.int z11), some (.int (I (pcs (sg W.1.1 s) : Int))), some (.int z13), some (.int z14), some (.int z15), some (.int z16), some (.int z17), some (.int z18), some (.int z19), some (.int z20), some (.int z21), some (.int (I (i : Int))), some (.int (I ((sg W.1.1 i).1.length : Int))), x24, x25, x26, x27] [.int (I (pcs (sg W.1.1 i) : Int))] h1 Q := by
      refine B_Law_same_734 ?_
      simp only [wp_cons, wp_nil, List.getElem?_cons_zero, List.getElem?_cons_succ, List.set_cons_zero, List.set_cons_succ, s_istore, p1_s, s1_0, s1_s, kx_i, kx_r, kx_s, kx_n, kx_l, kx_0, s_iconst, true_and, and_true, Nat.le_refl, true_implies, forall_const, not_false_eq_true, false_implies, not_true_eq_false, reduceCtorEq, tl_s, tl_n, rf_s, List.cons_append, List.nil_append, true_or, or_true, hc]
      refine Same_two hd wS wT a1 b1 t u (fun v x27 hv => ?_) (pcs (sg W.1.1 s)) 0 0 _ (by omega) rfl
      obtain ⟨k1, k2⟩ := sp_cross_k hs (show i < s by omega)
      refine B_Law_same_809 ?_
      simp only [wp_cons, wp_nil, List.getElem?_cons_zero, List.getElem?_cons_succ, List.set_cons_zero, List.set_cons_succ, s_aload_n0, ldA_r, ldA_n, ldA_s, s_iload, ldI_s, s_invokevirtual, rc_s, ob_s, List.drop_succ_cons, List.drop_zero, List.take_succ_cons, List.take_zero, List.reverse_cons, List.reverse_nil, List.nil_append, List.cons_append, List.length_cons, List.length_nil, d1, Int.reduceToNat, Nat.reduceAdd, Nat.reduceLeDiff, true_and, and_true, Nat.le_refl, true_implies, forall_const, not_false_eq_true, false_implies, not_true_eq_false, reduceCtorEq, tl_s, tl_n, rf_s, true_or, or_true, hc]
      refine Pens_cross_c (by omega) w p1 (by omega) (by omega) ?_
      rw [k1, ← hv]
      refine B_Law_same_817 ?_
      simp only [wp_cons, wp_nil, List.getElem?_cons_zero, List.getElem?_cons_succ, List.set_cons_zero, List.set_cons_succ, s_iload, ldI_s, s_if_icmp_ne, p2_s, true_and, and_true, Nat.le_refl, true_implies, forall_const, not_false_eq_true, false_implies, not_true_eq_false, reduceCtorEq, tl_s, tl_n, rf_s, List.cons_append, List.nil_append, true_or, or_true, hc]
      refine B_Law_same_822 ?_
      simp only [wp_cons, wp_nil, List.getElem?_cons_zero, List.getElem?_cons_succ, List.set_cons_zero, List.set_cons_succ, s_aload_n0, ldA_r, ldA_n, ldA_s, s_iload, ldI_s, s_invokevirtual, rc_s, ob_s, List.drop_succ_cons, List.drop_zero, List.take_succ_cons, List.take_zero, List.reverse_cons, List.reverse_nil, List.nil_append, List.cons_append, List.length_cons, List.length_nil, d1, Int.reduceToNat, Nat.reduceAdd, Nat.reduceLeDiff, true_and, and_true, Nat.le_refl, true_implies, forall_const, not_false_eq_true, false_implies, not_true_eq_false, reduceCtorEq, tl_s, tl_n, rf_s, true_or, or_true, hc]
      refine Pens_cross_c (by omega) w p1 (by omega) (by omega) ?_
      rw [k2, ← hv]
      refine B_Law_same_830 ?_
      simp only [wp_cons, wp_nil, List.getElem?_cons_zero, List.getElem?_cons_succ, List.set_cons_zero, List.set_cons_succ, s_iload, ldI_s, s_if_icmp_eq, p2_s, true_and, and_true, Nat.le_refl, true_implies, forall_const, not_false_eq_true, false_implies, not_true_eq_false, reduceCtorEq, tl_s, tl_n, rf_s, List.cons_append, List.nil_append, true_or, or_true, hc]
      refine B_Law_same_837 ?_
      simp only [wp_cons, wp_nil, List.getElem?_cons_zero, List.getElem?_cons_succ, List.set_cons_zero, List.set_cons_succ, s_iinc, ldI_s, s1_0, s1_s, kx_i, kx_r, kx_s, kx_n, kx_l, kx_0, I_add, s_goto, true_and, and_true, Nat.le_refl, true_implies, forall_const, not_false_eq_true, false_implies, not_true_eq_false, reduceCtorEq, tl_s, tl_n, rf_s, List.cons_append, List.nil_append, true_or, or_true, hc]
      exact ih (i + 1) h1 g1 _ _ _ _ _ (by omega) p1 a1 b1
    by_cases z : (sg W.1.1 i).2 = true
    · have ez : sz (sg W.1.1 i).2 = 1 := if_pos z
      have ep9 : pcs (sg W.1.1 i) = (sg W.1.1 i).1.length := if_pos z
      rw [ez]
      rw [ep9] at K734
      refine B_Law_same_721 ?_
      simp only [wp_cons, wp_nil, List.getElem?_cons_zero, List.getElem?_cons_succ, List.set_cons_zero, List.set_cons_succ, s_iconst, s_if_icmp_ne, p2_s, true_and, and_true, Nat.le_refl, true_implies, forall_const, not_false_eq_true, false_implies, not_true_eq_false, reduceCtorEq, tl_s, tl_n, rf_s, List.cons_append, List.nil_append, true_or, or_true, hc]
      refine B_Law_same_725 ?_
      simp only [wp_cons, wp_nil, List.getElem?_cons_zero, List.getElem?_cons_succ, List.set_cons_zero, List.set_cons_succ, s_iload, ldI_s, s_goto, true_and, and_true, Nat.le_refl, true_implies, forall_const, not_false_eq_true, false_implies, not_true_eq_false, reduceCtorEq, tl_s, tl_n, rf_s, List.cons_append, List.nil_append, true_or, or_true, hc]
      exact K734
    · have ez : sz (sg W.1.1 i).2 = 0 := if_neg z
      have ep9 : pcs (sg W.1.1 i) = (sg W.1.1 i).1.length - 1 := if_neg z
      rw [ez]
      rw [ep9, show (((sg W.1.1 i).1.length - 1 : Nat) : Int) = ((sg W.1.1 i).1.length : Int) - 1 by omega] at K734
      refine B_Law_same_721 ?_
      simp only [wp_cons, wp_nil, List.getElem?_cons_zero, List.getElem?_cons_succ, List.set_cons_zero, List.set_cons_succ, s_iconst, s_if_icmp_ne, p2_s, true_and, and_true, Nat.le_refl, true_implies, forall_const, not_false_eq_true, false_implies, not_true_eq_false, reduceCtorEq, tl_s, tl_n, rf_s, List.cons_append, List.nil_append, true_or, or_true, hc]
      refine b_ne (by omega) (by omega) (fun cc => ?_) (fun cc => absurd cc (by omega))
      refine B_Law_same_730 ?_
      simp only [wp_cons, wp_nil, List.getElem?_cons_zero, List.getElem?_cons_succ, List.set_cons_zero, List.set_cons_succ, s_iload, ldI_s, s_iconst, s_isub, p2_s, I_sub, true_and, and_true, Nat.le_refl, true_implies, forall_const, not_false_eq_true, false_implies, not_true_eq_false, reduceCtorEq, tl_s, tl_n, rf_s, List.cons_append, List.nil_append, true_or, or_true, hc]
      exact K734
set_option maxHeartbeats 4000000 in
theorem Same_outer {d : Nat} (hd : 10 ≤ d) {W : Wd} {a b : Nat} {px py : Int} {Q : g_Po} (w : wfW W) (ha : 208 ≤ a) (hb : 208 ≤ b) (hab : a ≠ b) (hx : 0 ≤ px ∧ px < 130) (hy : 0 ≤ py ∧ py < 130) {n0 : Nat} (hn0 : a < n0 ∧ b < n0) (hQ : ∀ h, pens h 0 W → b < h.length → Q (some (.int (I 1))) h) {z1 : Int32} :
    ∀ (m s : Nat) (h : g_H) (f g : Nat → Int) (v : Int × Int) (x10 x11 x12 x13 x14 x15 x16 x17 x18 x19 x20 x21 x22 x23 x24 x25 x26 x27 : Option Value), s + m = W.1.1.length → pens h 0 W → ary h a 32 f → ary h b 32 g → v = nra (1000 * px + py) W.1.1 s → G Law_same d 2 64 2 64 47 [some (.ref 0), some (.int z1), some (.int (I (W.1.1.length : Int))), some (.ref a), some (.ref b), some (.int (I px)), some (.int (I py)), some (.int (I v.1)), some (.int (I v.2)), some (.int (I (s : Int))), x10, x11, x12, x13, x14, x15, x16, x17, x18, x19, x20, x21, x22, x23, x24, x25, x26, x27] [] h Q := by
  have d1 : 1 ≤ d := by omega
  have wl : W.1.1.length ≤ 10 := w.1.1.1
  have hpl : plc px py := by omega
  have hpt : pt (1000 * px + py) := by omega
  intro m
  induction m with
  | zero =>
    intro s h f g v x10 x11 x12 x13 x14 x15 x16 x17 x18 x19 x20 x21 x22 x23 x24 x25 x26 x27 hs hp har hbr hv
    obtain rfl : s = W.1.1.length := by omega
    obtain ⟨fs, hc⟩ := hp.at6
    refine B_Law_same_47 ?_
    simp only [wp_cons, wp_nil, List.getElem?_cons_zero, List.getElem?_cons_succ, List.set_cons_zero, List.set_cons_succ, s_iload, ldI_s, s_iload_n2, s_if_icmp_ge, p2_s, true_and, and_true, Nat.le_refl, true_implies, forall_const, not_false_eq_true, false_implies, not_true_eq_false, reduceCtorEq, tl_s, tl_n, rf_s, List.cons_append, List.nil_append, true_or, or_true, hc]
    refine b_le (by omega) (by omega) (fun cc => ?_) (fun cc => absurd cc (by omega))
    refine B_Law_same_849 ?_
    simp only [wp_cons, wp_nil, List.getElem?_cons_zero, List.getElem?_cons_succ, List.set_cons_zero, List.set_cons_succ, s_aload_n0, ldA_r, ldA_n, ldA_s, s_iload, ldI_s, s_invokevirtual, rc_s, ob_s, List.drop_succ_cons, List.drop_zero, List.take_succ_cons, List.take_zero, List.reverse_cons, List.reverse_nil, List.nil_append, List.cons_append, List.length_cons, List.length_nil, d1, Int.reduceToNat, Nat.reduceAdd, Nat.reduceLeDiff, true_and, and_true, Nat.le_refl, true_implies, forall_const, not_false_eq_true, false_implies, not_true_eq_false, reduceCtorEq, tl_s, tl_n, rf_s, true_or, or_true, hc]
    refine Pens_near_c (by omega) w hp (by omega) (by omega) ?_
    rw [show (sp_near W px py).1 = v.1 by rw [hv]; exact if_neg (fun q => q hpl)]
    refine B_Law_same_857 ?_
    simp only [wp_cons, wp_nil, List.getElem?_cons_zero, List.getElem?_cons_succ, List.set_cons_zero, List.set_cons_succ, s_iload, ldI_s, s_if_icmp_ne, p2_s, true_and, and_true, Nat.le_refl, true_implies, forall_const, not_false_eq_true, false_implies, not_true_eq_false, reduceCtorEq, tl_s, tl_n, rf_s, List.cons_append, List.nil_append, true_or, or_true, hc]
    refine B_Law_same_862 ?_
    simp only [wp_cons, wp_nil, List.getElem?_cons_zero, List.getElem?_cons_succ, List.set_cons_zero, List.set_cons_succ, s_aload_n0, ldA_r, ldA_n, ldA_s, s_iload_n2, ldI_s, s_iconst, s_invokevirtual, rc_s, ob_s, List.drop_succ_cons, List.drop_zero, List.take_succ_cons, List.take_zero, List.reverse_cons, List.reverse_nil, List.nil_append, List.cons_append, List.length_cons, List.length_nil, d1, Int.reduceToNat, Nat.reduceAdd, Nat.reduceLeDiff, true_and, and_true, Nat.le_refl, true_implies, forall_const, not_false_eq_true, false_implies, not_true_eq_false, reduceCtorEq, tl_s, tl_n, rf_s, true_or, or_true, hc]
    refine Pens_of_c (by omega) w hp (by omega) (by omega) ?_
    rw [show (sp_of W (W.1.1.length : Int) 0).1 = -1 from if_pos (fun q => by have := q.2; omega)]
    refine B_Law_same_868 ?_
    simp only [wp_cons, wp_nil, List.getElem?_cons_zero, List.getElem?_cons_succ, List.set_cons_zero, List.set_cons_succ, s_iconst, s_if_icmp_ne, p2_s, true_and, and_true, Nat.le_refl, true_implies, forall_const, not_false_eq_true, false_implies, not_true_eq_false, reduceCtorEq, tl_s, tl_n, rf_s, List.cons_append, List.nil_append, true_or, or_true, hc]
    refine B_Law_same_872 ?_
    simp only [wp_cons, wp_nil, List.getElem?_cons_zero, List.getElem?_cons_succ, List.set_cons_zero, List.set_cons_succ, s_iconst, s_goto, true_and, and_true, Nat.le_refl, true_implies, forall_const, not_false_eq_true, false_implies, not_true_eq_false, reduceCtorEq, tl_s, tl_n, rf_s, List.cons_append, List.nil_append, true_or, or_true, hc]
    refine B_Law_same_877 ?_
    simp only [wp_cons, wp_nil, List.getElem?_cons_zero, List.getElem?_cons_succ, List.set_cons_zero, List.set_cons_succ, s_ireturn, p1_s, rI_i, rI_z, rI_c, z_01, z_11, rt_Law_same, true_and, and_true, Nat.le_refl, true_implies, forall_const, not_false_eq_true, false_implies, not_true_eq_false, reduceCtorEq, tl_s, tl_n, rf_s, List.cons_append, List.nil_append, true_or, or_true, hc]
    exact hQ h hp (List.getElem?_eq_some_iff.mp hbr).1
  | succ m ih =>
    intro s h f g v x10 x11 x12 x13 x14 x15 x16 x17 x18 x19 x20 x21 x22 x23 x24 x25 x26 x27 hs hp har hbr hv
    have hs2 : s < W.1.1.length := by omega
    have wS := w.1.1.2 s hs2
    have u1 := wS.1
    have u2 := wS.2.1
    refine B_Law_same_47 ?_
    simp only [wp_cons, wp_nil, List.getElem?_cons_zero, List.getElem?_cons_succ, List.set_cons_zero, List.set_cons_succ, s_iload, ldI_s, s_iload_n2, s_if_icmp_ge, p2_s, true_and, and_true, Nat.le_refl, true_implies, forall_const, not_false_eq_true, false_implies, not_true_eq_false, reduceCtorEq, tl_s, tl_n, rf_s, List.cons_append, List.nil_append, true_or, or_true]
    refine b_le (by omega) (by omega) (fun cc => absurd cc (by omega)) (fun cc => ?_)
    refine B_Law_same_53 ?_
    simp only [wp_cons, wp_nil, List.getElem?_cons_zero, List.getElem?_cons_succ, List.set_cons_zero, List.set_cons_succ, s_aload_n0, ldA_r, ldA_n, ldA_s, s_iload, ldI_s, s_aload_n3, s_invokestatic, rc_s, ob_s, List.drop_succ_cons, List.drop_zero, List.take_succ_cons, List.take_zero, List.reverse_cons, List.reverse_nil, List.nil_append, List.cons_append, List.length_cons, List.length_nil, Nat.reduceEqDiff, eq_self, reduceIte, p1_s, p2_s, l1_s, d1, Int.reduceToNat, Nat.reduceAdd, Nat.reduceLeDiff, true_and, and_true, Nat.le_refl, true_implies, forall_const, not_false_eq_true, false_implies, not_true_eq_false, reduceCtorEq, tl_s, tl_n, rf_s, true_or, or_true]
    refine Law_take_c (by omega) w hp hs2 ha har (fun h1 f1 c1 p1 a1 t => ?_)
    have b1 : ary h1 b 32 g := hbr.un c1 hb (fun q => hab q.symm)
    obtain ⟨fs, hc⟩ := p1.at6
    refine B_Law_same_60 ?_
    simp only [wp_cons, wp_nil, List.getElem?_cons_zero, List.getElem?_cons_succ, List.set_cons_zero, List.set_cons_succ, s_istore, p1_s, s1_0, s1_s, kx_i, kx_r, kx_s, kx_n, kx_l, kx_0, s_aload_n0, ldA_r, ldA_n, ldA_s, s_iload, ldI_s, s_iconst, s_invokevirtual, rc_s, ob_s, List.drop_succ_cons, List.drop_zero, List.take_succ_cons, List.take_zero, List.reverse_cons, List.reverse_nil, List.nil_append, List.cons_append, List.length_cons, List.length_nil, d1, Int.reduceToNat, Nat.reduceAdd, Nat.reduceLeDiff, true_and, and_true, Nat.le_refl, true_implies, forall_const, not_false_eq_true, false_implies, not_true_eq_false, reduceCtorEq, tl_s, tl_n, rf_s, true_or, or_true, hc]
    refine Pens_of_c (by omega) w p1 (by omega) (by omega) ?_
    rw [(sp_of_lit hs2).1]
    have K94 : G Law_same d 2 64 2 64 94 [some (.ref 0), some (.int z1), some (.int (I (W.1.1.length : Int))), some (.ref a), some (.ref b), some (.int (I px)), some (.int (I py)), some (.int (I v.1)), some (.int (I v.2)), some (.int (I (s : Int))), some (.int (I ((sg W.1.1 s).1.length : Int))), some (.int (I (sz (sg W.1.1 s).2))), x12, x13, x14, x15, x16, x17, x18, x19, x20, x21, x22, x23, x24, x25, x26, x27] [.int (I (pcs (sg W.1.1 s) : Int))] h1 Q := by
      have K148 : G Law_same d 2 64 2 64 148 [some (.ref 0), some (.int z1), some (.int (I (W.1.1.length : Int))), some (.ref a), some (.ref b), some (.int (I px)), some (.int (I py)), some (.int (I v.1)), some (.int (I v.2)), some (.int (I (s : Int))), some (.int (I ((sg W.1.1 s).1.length : Int))), some (.int (I (sz (sg W.1.1 s).2))), some (.int (I (pcs (sg W.1.1 s) : Int))), some (.int (I 0)), some (.int (I 0)), some (.int (I 0)), some (.int (I 0)), some (.int (I 999)), some (.int (I 0)), some (.int (I 999)), some (.int (I 0)), x21, x22, x23, x24, x25, x26, x27] [] h1 Q := by
        refine B_Law_same_148 ?_
        simp only [wp_cons, wp_nil, List.getElem?_cons_zero, List.getElem?_cons_succ, List.set_cons_zero, List.set_cons_succ, s_iconst, s_istore, p1_s, s1_0, s1_s, kx_i, kx_r, kx_s, kx_n, kx_l, kx_0, true_and, and_true, Nat.le_refl, true_implies, forall_const, not_false_eq_true, false_implies, not_true_eq_false, reduceCtorEq, tl_s, tl_n, rf_s, List.cons_append, List.nil_append, true_or, or_true, hc]
        refine Same_pieces hd wS a1 t hx hy (fun v13 v14 v15 v16 y22 y23 y24 g1 g2 g3 g4 => ?_) (pcs (sg W.1.1 s)) 0 0 0 0 0 _ _ _ (by omega) rfl rfl rfl rfl
        refine B_Law_same_368 ?_
        simp only [wp_cons, wp_nil, List.getElem?_cons_zero, List.getElem?_cons_succ, List.set_cons_zero, List.set_cons_succ, s_iconst, s_istore, p1_s, s1_0, s1_s, kx_i, kx_r, kx_s, kx_n, kx_l, kx_0, true_and, and_true, Nat.le_refl, true_implies, forall_const, not_false_eq_true, false_implies, not_true_eq_false, reduceCtorEq, tl_s, tl_n, rf_s, List.cons_append, List.nil_append, true_or, or_true, hc]
        refine Same_points hd wS (by omega) (nra_k hpt w.1.1 s (by omega)) a1 t hx hy (fun v' v17 v18 v19 v20 y22 y23 y24 e0 e1 e2 e3 e4 => ?_) (sg W.1.1 s).1.length 0 v 999 0 999 0 _ _ _ (by omega) hv rfl rfl rfl rfl
        rw [g1, g2, g3, g4, e1, e2, e3, e4]
        refine Same_checks hd w p1 hs2 hx hy ?_
        refine Same_others hd w hs2 ha hb hab t (fun h2 g2 y22 y23 y24 y25 y26 y27 p2 a2 b2 => ?_) s 0 h1 g _ _ _ _ _ (by omega) p1 a1 b1
        refine B_Law_same_843 ?_
        simp only [wp_cons, wp_nil, List.getElem?_cons_zero, List.getElem?_cons_succ, List.set_cons_zero, List.set_cons_succ, s_iinc, ldI_s, s1_0, s1_s, kx_i, kx_r, kx_s, kx_n, kx_l, kx_0, I_add, s_goto, true_and, and_true, Nat.le_refl, true_implies, forall_const, not_false_eq_true, false_implies, not_true_eq_false, reduceCtorEq, tl_s, tl_n, rf_s, List.cons_append, List.nil_append, true_or, or_true, hc]
        refine ih (s + 1) h2 f1 g2 v' _ _ _ _ _ _ _ _ _ _ _ _ _ _ _ _ _ _ (by omega) p2 a2 b2 ?_
        rw [e0]; rfl
      by_cases z : (sg W.1.1 s).2 = true
      · have ez : sz (sg W.1.1 s).2 = 1 := if_pos z
        have h3 := (wS.2.2.2.2 z).1
        rw [ez] at K148 ⊢
        refine B_Law_same_94 ?_
        simp only [wp_cons, wp_nil, List.getElem?_cons_zero, List.getElem?_cons_succ, List.set_cons_zero, List.set_cons_succ, s_istore, p1_s, s1_0, s1_s, kx_i, kx_r, kx_s, kx_n, kx_l, kx_0, s_iconst, s_sipush, s_iload, ldI_s, s_ifCond_eq, true_and, and_true, Nat.le_refl, true_implies, forall_const, not_false_eq_true, false_implies, not_true_eq_false, reduceCtorEq, tl_s, tl_n, rf_s, List.cons_append, List.nil_append, true_or, or_true, hc]
        refine b_eq (by omega) (by omega) (fun cc => absurd cc (by omega)) (fun cc => ?_)
        refine B_Law_same_131 ?_
        simp only [wp_cons, wp_nil, List.getElem?_cons_zero, List.getElem?_cons_succ, List.set_cons_zero, List.set_cons_succ, s_iconst, s_goto, true_and, and_true, Nat.le_refl, true_implies, forall_const, not_false_eq_true, false_implies, not_true_eq_false, reduceCtorEq, tl_s, tl_n, rf_s, List.cons_append, List.nil_append, true_or, or_true, hc]
        refine B_Law_same_136 ?_
        simp only [wp_cons, wp_nil, List.getElem?_cons_zero, List.getElem?_cons_succ, List.set_cons_zero, List.set_cons_succ, s_if_icmp_lt, p2_s, true_and, and_true, Nat.le_refl, true_implies, forall_const, not_false_eq_true, false_implies, not_true_eq_false, reduceCtorEq, tl_s, tl_n, rf_s, List.cons_append, List.nil_append, true_or, or_true, hc]
        refine b_lt (by omega) (by omega) (fun cc => absurd cc (by omega)) (fun cc => ?_)
        refine B_Law_same_139 ?_
        simp only [wp_cons, wp_nil, List.getElem?_cons_zero, List.getElem?_cons_succ, List.set_cons_zero, List.set_cons_succ, s_iload, ldI_s, s_bipush, s_if_icmp_le, p2_s, true_and, and_true, Nat.le_refl, true_implies, forall_const, not_false_eq_true, false_implies, not_true_eq_false, reduceCtorEq, tl_s, tl_n, rf_s, List.cons_append, List.nil_append, true_or, or_true, hc]
        refine b_le (by omega) (by omega) (fun cc => ?_) (fun cc => absurd cc (by omega))
        exact K148
      · have ez : sz (sg W.1.1 s).2 = 0 := if_neg z
        rw [ez] at K148 ⊢
        refine B_Law_same_94 ?_
        simp only [wp_cons, wp_nil, List.getElem?_cons_zero, List.getElem?_cons_succ, List.set_cons_zero, List.set_cons_succ, s_istore, p1_s, s1_0, s1_s, kx_i, kx_r, kx_s, kx_n, kx_l, kx_0, s_iconst, s_sipush, s_iload, ldI_s, s_ifCond_eq, true_and, and_true, Nat.le_refl, true_implies, forall_const, not_false_eq_true, false_implies, not_true_eq_false, reduceCtorEq, tl_s, tl_n, rf_s, List.cons_append, List.nil_append, true_or, or_true, hc]
        refine B_Law_same_135 ?_
        simp only [wp_cons, wp_nil, List.getElem?_cons_zero, List.getElem?_cons_succ, List.set_cons_zero, List.set_cons_succ, s_iconst, true_and, and_true, Nat.le_refl, true_implies, forall_const, not_false_eq_true, false_implies, not_true_eq_false, reduceCtorEq, tl_s, tl_n, rf_s, List.cons_append, List.nil_append, true_or, or_true, hc]
        refine B_Law_same_136 ?_
        simp only [wp_cons, wp_nil, List.getElem?_cons_zero, List.getElem?_cons_succ, List.set_cons_zero, List.set_cons_succ, s_if_icmp_lt, p2_s, true_and, and_true, Nat.le_refl, true_implies, forall_const, not_false_eq_true, false_implies, not_true_eq_false, reduceCtorEq, tl_s, tl_n, rf_s, List.cons_append, List.nil_append, true_or, or_true, hc]
        refine b_lt (by omega) (by omega) (fun cc => absurd cc (by omega)) (fun cc => ?_)
        refine B_Law_same_139 ?_
        simp only [wp_cons, wp_nil, List.getElem?_cons_zero, List.getElem?_cons_succ, List.set_cons_zero, List.set_cons_succ, s_iload, ldI_s, s_bipush, s_if_icmp_le, p2_s, true_and, and_true, Nat.le_refl, true_implies, forall_const, not_false_eq_true, false_implies, not_true_eq_false, reduceCtorEq, tl_s, tl_n, rf_s, List.cons_append, List.nil_append, true_or, or_true, hc]
        refine b_le (by omega) (by omega) (fun cc => ?_) (fun cc => absurd cc (by omega))
        exact K148
    by_cases z : (sg W.1.1 s).2 = true
    · have ez : sz (sg W.1.1 s).2 = 1 := if_pos z
      have ep9 : pcs (sg W.1.1 s) = (sg W.1.1 s).1.length := if_pos z
      rw [ez] at K94 ⊢
      rw [ep9] at K94
      refine B_Law_same_69 ?_
      simp only [wp_cons, wp_nil, List.getElem?_cons_zero, List.getElem?_cons_succ, List.set_cons_zero, List.set_cons_succ, s_iconst, s_if_icmp_ne, p2_s, true_and, and_true, Nat.le_refl, true_implies, forall_const, not_false_eq_true, false_implies, not_true_eq_false, reduceCtorEq, tl_s, tl_n, rf_s, List.cons_append, List.nil_append, true_or, or_true, hc]
      refine B_Law_same_73 ?_
      simp only [wp_cons, wp_nil, List.getElem?_cons_zero, List.getElem?_cons_succ, List.set_cons_zero, List.set_cons_succ, s_iconst, s_goto, true_and, and_true, Nat.le_refl, true_implies, forall_const, not_false_eq_true, false_implies, not_true_eq_false, reduceCtorEq, tl_s, tl_n, rf_s, List.cons_append, List.nil_append, true_or, or_true, hc]
      refine B_Law_same_78 ?_
      simp only [wp_cons, wp_nil, List.getElem?_cons_zero, List.getElem?_cons_succ, List.set_cons_zero, List.set_cons_succ, s_istore, p1_s, s1_0, s1_s, kx_i, kx_r, kx_s, kx_n, kx_l, kx_0, s_iload, ldI_s, s_ifCond_eq, true_and, and_true, Nat.le_refl, true_implies, forall_const, not_false_eq_true, false_implies, not_true_eq_false, reduceCtorEq, tl_s, tl_n, rf_s, List.cons_append, List.nil_append, true_or, or_true, hc]
      refine b_eq (by omega) (by omega) (fun cc => absurd cc (by omega)) (fun cc => ?_)
      refine B_Law_same_85 ?_
      simp only [wp_cons, wp_nil, List.getElem?_cons_zero, List.getElem?_cons_succ, List.set_cons_zero, List.set_cons_succ, s_iload, ldI_s, s_goto, true_and, and_true, Nat.le_refl, true_implies, forall_const, not_false_eq_true, false_implies, not_true_eq_false, reduceCtorEq, tl_s, tl_n, rf_s, List.cons_append, List.nil_append, true_or, or_true, hc]
      exact K94
    · have ez : sz (sg W.1.1 s).2 = 0 := if_neg z
      have ep9 : pcs (sg W.1.1 s) = (sg W.1.1 s).1.length - 1 := if_neg z
      rw [ez] at K94 ⊢
      rw [ep9, show (((sg W.1.1 s).1.length - 1 : Nat) : Int) = ((sg W.1.1 s).1.length : Int) - 1 by omega] at K94
      refine B_Law_same_69 ?_
      simp only [wp_cons, wp_nil, List.getElem?_cons_zero, List.getElem?_cons_succ, List.set_cons_zero, List.set_cons_succ, s_iconst, s_if_icmp_ne, p2_s, true_and, and_true, Nat.le_refl, true_implies, forall_const, not_false_eq_true, false_implies, not_true_eq_false, reduceCtorEq, tl_s, tl_n, rf_s, List.cons_append, List.nil_append, true_or, or_true, hc]
      refine b_ne (by omega) (by omega) (fun cc => ?_) (fun cc => absurd cc (by omega))
      refine B_Law_same_77 ?_
      simp only [wp_cons, wp_nil, List.getElem?_cons_zero, List.getElem?_cons_succ, List.set_cons_zero, List.set_cons_succ, s_iconst, true_and, and_true, Nat.le_refl, true_implies, forall_const, not_false_eq_true, false_implies, not_true_eq_false, reduceCtorEq, tl_s, tl_n, rf_s, List.cons_append, List.nil_append, true_or, or_true, hc]
      refine B_Law_same_78 ?_
      simp only [wp_cons, wp_nil, List.getElem?_cons_zero, List.getElem?_cons_succ, List.set_cons_zero, List.set_cons_succ, s_istore, p1_s, s1_0, s1_s, kx_i, kx_r, kx_s, kx_n, kx_l, kx_0, s_iload, ldI_s, s_ifCond_eq, true_and, and_true, Nat.le_refl, true_implies, forall_const, not_false_eq_true, false_implies, not_true_eq_false, reduceCtorEq, tl_s, tl_n, rf_s, List.cons_append, List.nil_append, true_or, or_true, hc]
      refine B_Law_same_90 ?_
      simp only [wp_cons, wp_nil, List.getElem?_cons_zero, List.getElem?_cons_succ, List.set_cons_zero, List.set_cons_succ, s_iload, ldI_s, s_iconst, s_isub, p2_s, I_sub, true_and, and_true, Nat.le_refl, true_implies, forall_const, not_false_eq_true, false_implies, not_true_eq_false, reduceCtorEq, tl_s, tl_n, rf_s, List.cons_append, List.nil_append, true_or, or_true, hc]
      exact K94
/-- a cell more behind all others -/
theorem pens.ap {h : g_H} {W : Wd} (x : g_C) (q : pens h 0 W) (hl : 208 ≤ h.length) : pens (h ++ [x]) 0 W := by
  have e4 : ∀ b, b < 208 → (h ++ [x])[b]? = h[b]? := fun b hb => ap_l x (by omega)
  obtain ⟨σ, a0, a1, a2, a3, a4, a5, a6, a7⟩ := q
  exact ⟨σ, (e4 0 (by omega)).trans a0, a1.pw (fun b h1 h2 => e4 b (by omega)), a2.pw (fun b h1 h2 => e4 b (by omega)), a3.pw (fun b h1 h2 => e4 b (by omega)), a4.pw (fun b h1 h2 => e4 b (by omega)), a5.pw (fun b h1 h2 => e4 b (by omega)), a6.pw (fun b h1 h2 => e4 b (by omega)), a7.pw (fun b h1 h2 => e4 b (by omega))⟩
theorem ary.ap {h : g_H} {a n : Nat} {f : Nat → Int} (x : g_C) (q : ary h a n f) : ary (h ++ [x]) a n f := (ap_l x (List.getElem?_eq_some_iff.mp q).1).trans q
theorem ary.new {h : g_H} {a n : Nat} (ha : a = h.length) : ary (h ++ [.inl (0, n, fun _ => I 0)]) a n (fun _ => 0) := ap_r _ ha
theorem I_cast (n : Nat) (x : Int) (e : x = n) : (I x = I ((n : Nat) : Int)) = True := eq_true (by rw [e])
theorem Law_same_c {d : Nat} (hd : 10 ≤ d) {W : Wd} {x : Int32} {h : g_H} {Q : g_Po} (w : wfW W) (hp : pens h 0 W) (hl : 208 ≤ h.length) (hQ : ∀ h', pens h' 0 W → 208 ≤ h'.length → Q (some (.int (I 1))) h') : Call Law_same d 2 64 [.ref 0, .int x] h Q := by
  have d1 : 1 ≤ d := by omega
  obtain ⟨fs, hc⟩ := hp.at6
  refine Call.intro (by rfl) (Nat.le_of_ble_eq_true rfl) ?_
  refine G.eqL (L := [some (.ref 0), some (.int x), none, none, none, none, none, none, none, none, none, none, none, none, none, none, none, none, none, none, none, none, none, none, none, none, none, none]) rfl ?_
  have hcs : 0 ≤ 2 ∧ 0 ≤ 64 := by omega
  refine B_Law_same_0 ?_
  simp only [wp_cons, wp_nil, List.getElem?_cons_zero, List.getElem?_cons_succ, List.set_cons_zero, List.set_cons_succ, s_aload_n0, ldA_r, ldA_n, ldA_s, s_invokevirtual, rc_s, ob_s, List.drop_succ_cons, List.drop_zero, List.take_succ_cons, List.take_zero, List.reverse_cons, List.reverse_nil, List.nil_append, List.cons_append, List.length_cons, List.length_nil, d1, Int.reduceToNat, Nat.reduceAdd, Nat.reduceLeDiff, true_and, and_true, Nat.le_refl, true_implies, forall_const, not_false_eq_true, false_implies, not_true_eq_false, reduceCtorEq, tl_s, tl_n, rf_s, true_or, or_true, hc, I_cast 32 32 rfl, len_ap, Nat.reduceLT, Nat.zero_le]
  refine Pens_strokes_c hp ?_
  rw [show (sp_strokes W).1 = (W.1.1.length : Int) from rfl]
  refine B_Law_same_4 ?_
  simp only [wp_cons, wp_nil, List.getElem?_cons_zero, List.getElem?_cons_succ, List.set_cons_zero, List.set_cons_succ, s_istore_n2, p1_s, s1_0, s1_s, kx_i, kx_r, kx_s, kx_n, kx_l, kx_0, s_bipush, s_newarray, s_astore_n3, pA_r, pA_n, s_astore, s_iload_n1, ldI_s, s_sipush, s_invokestatic, rc_s, ob_s, List.drop_succ_cons, List.drop_zero, List.take_succ_cons, List.take_zero, List.reverse_cons, List.reverse_nil, List.nil_append, List.cons_append, List.length_cons, List.length_nil, Nat.reduceEqDiff, eq_self, reduceIte, p2_s, l1_s, d1, Int.reduceToNat, Nat.reduceAdd, Nat.reduceLeDiff, true_and, and_true, Nat.le_refl, true_implies, forall_const, not_false_eq_true, false_implies, not_true_eq_false, reduceCtorEq, tl_s, tl_n, rf_s, true_or, or_true, hc, I_cast 32 32 rfl, len_ap, Nat.reduceLT, Nat.zero_le]
  have p2 := (hp.ap (.inl (0, 32, fun _ => I 0)) hl).ap (.inl (0, 32, fun _ => I 0)) (by rw [len_ap]; omega)
  have a2 : ary (h ++ [.inl (0, 32, fun _ => I 0)] ++ [.inl (0, 32, fun _ => I 0)]) h.length 32 (fun _ => 0) := (ary.new rfl).ap _
  have b2 : ary (h ++ [.inl (0, 32, fun _ => I 0)] ++ [.inl (0, 32, fun _ => I 0)]) (h.length + 1) 32 (fun _ => 0) := ary.new (len_ap _ _).symm
  refine Law_low_c (by omega) (fun px h1 h2 => ?_)
  refine B_Law_same_23 ?_
  simp only [wp_cons, wp_nil, List.getElem?_cons_zero, List.getElem?_cons_succ, List.set_cons_zero, List.set_cons_succ, s_istore, p1_s, s1_0, s1_s, kx_i, kx_r, kx_s, kx_n, kx_l, kx_0, s_iload_n1, ldI_s, s_bipush, s_ishr, p2_s, s_sipush, s_invokestatic, rc_s, ob_s, List.drop_succ_cons, List.drop_zero, List.take_succ_cons, List.take_zero, List.reverse_cons, List.reverse_nil, List.nil_append, List.cons_append, List.length_cons, List.length_nil, Nat.reduceEqDiff, eq_self, reduceIte, l1_s, d1, Int.reduceToNat, Nat.reduceAdd, Nat.reduceLeDiff, true_and, and_true, Nat.le_refl, true_implies, forall_const, not_false_eq_true, false_implies, not_true_eq_false, reduceCtorEq, tl_s, tl_n, rf_s, true_or, or_true, hc, I_cast 32 32 rfl, len_ap, Nat.reduceLT, Nat.zero_le]
  refine Law_low_c (by omega) (fun py h3 h4 => ?_)
  refine B_Law_same_35 ?_
  simp only [wp_cons, wp_nil, List.getElem?_cons_zero, List.getElem?_cons_succ, List.set_cons_zero, List.set_cons_succ, s_istore, p1_s, s1_0, s1_s, kx_i, kx_r, kx_s, kx_n, kx_l, kx_0, s_bipush, s_iconst, true_and, and_true, Nat.le_refl, true_implies, forall_const, not_false_eq_true, false_implies, not_true_eq_false, reduceCtorEq, tl_s, tl_n, rf_s, List.cons_append, List.nil_append, true_or, or_true, hc, I_cast 32 32 rfl, len_ap, Nat.reduceLT, Nat.reduceAdd, Nat.reduceLeDiff, Nat.zero_le]
  refine Same_outer hd w hl (by omega) (by omega) ⟨h1, h2⟩ ⟨h3, h4⟩ (n0 := h.length + 2) ⟨by omega, by omega⟩ (fun h' p' l' => hQ h' p' (by omega)) W.1.1.length 0 _ _ _ (-6, 0) _ _ _ _ _ _ _ _ _ _ _ _ _ _ _ _ _ _ (by omega) p2 a2 b2 rfl
