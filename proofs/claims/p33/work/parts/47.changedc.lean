/-! ===== the law: changed, splitting and order; the whole ===== -/
theorem I_rem_n {x : Int} {n : Nat} (hx : 0 ≤ x ∧ x ≤ 100000) (hn : 1 ≤ n ∧ n ≤ 100000) : I x - I x / I (n : Int) * I (n : Int) = I (x % n) := by
  rw [I_div (by omega) (by omega), Int.tdiv_eq_ediv_of_nonneg hx.1, I_mul, I_sub, Int.emod_def, Int.mul_comm]
theorem ne_n {n : Nat} (hn : 1 ≤ n ∧ n ≤ 100000) : (¬ I (n : Int) = I 0) = True := by
  rw [eq_iff_iff]
  exact ⟨fun _ => trivial, fun _ => by rw [I_eq (by omega) (by omega)]; omega⟩
theorem Changed_end {d : Nat} (hd : 10 ≤ d) {h : g_H} {Q : g_Po} {L : List (Option Value)} (hQ : Q (some (.int (I 1))) h) : G Law_changed d 2 64 2 64 1031 L [] h Q := by
  refine B_Law_changed_1031 ?_
  simp only [wp_cons, wp_nil, List.getElem?_cons_zero, List.getElem?_cons_succ, List.set_cons_zero, List.set_cons_succ, s_iconst, s_ireturn, p1_s, rI_i, rI_z, rI_c, z_01, z_11, rt_Law_changed, true_and, and_true, Nat.le_refl, true_implies, forall_const, not_false_eq_true, false_implies, not_true_eq_false, reduceCtorEq, tl_s, tl_n, rf_s, List.cons_append, List.nil_append, true_or, or_true]
  exact hQ
theorem sg_at {Ss : List Stk} {T : Stk} : sg (Ss ++ [T]) Ss.length = T := by
  rw [sg_app_r _ _ (Nat.le_refl _), Nat.sub_self]; rfl
theorem Changed_D {d : Nat} (hd : 10 ≤ d) {W : Wd} {a b s : Nat} {x : Int32} {f g : Nat → Int} {h : g_H} {Q : g_Po} (w : wfW W) (hs : s < W.1.1.length) (hp : pens h 0 W) (ha : 208 ≤ a) (hb : 208 ≤ b) (hab : a ≠ b) (har : ary h a 32 f) (hbr : ary h b 32 g) (tk : tkn (sg W.1.1 s) f) (hQ : ∀ h' W', wfW W' → W'.1.2 = W.1.2 → pens h' 0 W' → b < h'.length → Q (some (.int (I 1))) h') : G Law_changed d 2 64 2 64 582 [some (.ref 0), some (.int (I 4)), some (.int x), some (.int (I (s : Int))), some (.ref a), some (.ref b), some (.int (I ((sg W.1.1 s).1.length : Int))), some (.int (I (sz (sg W.1.1 s).2))), some (.int (I (W.1.1.length : Int))), none, none, none, none, none, none, none, none, none] [] h Q := by
  have d1 : 1 ≤ d := by omega
  have wl : W.1.1.length ≤ 10 := w.1.1.1
  have wS := w.1.1.2 s hs
  have w1 := wS.1
  have w2 := wS.2.1
  have w3 := wS.2.2.1
  obtain ⟨fs, hc⟩ := hp.at6
  have har' : h[a]? = some (.inl (0, 32, fun i => I (f i))) := har
  have en1 : ((sg W.1.1 s).1.length : Int) - 1 = (((sg W.1.1 s).1.length - 1 : Nat) : Int) := by omega
  refine B_Law_changed_582 ?_
  simp only [wp_cons, wp_nil, List.getElem?_cons_zero, List.getElem?_cons_succ, List.set_cons_zero, List.set_cons_succ, s_iload_n1, ldI_s, s_iconst, s_if_icmp_ne, p2_s, true_and, and_true, Nat.le_refl, true_implies, forall_const, not_false_eq_true, false_implies, not_true_eq_false, reduceCtorEq, tl_s, tl_n, rf_s, List.cons_append, List.nil_append, true_or, or_true, hc]
  refine B_Law_changed_587 ?_
  simp only [wp_cons, wp_nil, List.getElem?_cons_zero, List.getElem?_cons_succ, List.set_cons_zero, List.set_cons_succ, s_iload_n2, ldI_s, s_bipush, s_ishr, p2_s, s_iload, s_invokestatic, rc_s, ob_s, List.drop_succ_cons, List.drop_zero, List.take_succ_cons, List.take_zero, List.reverse_cons, List.reverse_nil, List.nil_append, List.cons_append, List.length_cons, List.length_nil, Nat.reduceEqDiff, eq_self, reduceIte, p1_s, l1_s, d1, Int.reduceToNat, Nat.reduceAdd, Nat.reduceLeDiff, true_and, and_true, Nat.le_refl, true_implies, forall_const, not_false_eq_true, false_implies, not_true_eq_false, reduceCtorEq, tl_s, tl_n, rf_s, true_or, or_true, hc]
  refine Law_low_c (by omega) (fun k0 h1 h2 => ?_)
  obtain ⟨k, rfl, hk⟩ := nat_of (n := (sg W.1.1 s).1.length) ⟨h1, h2⟩
  have ek := sp_split_k hs hk
  have w9 := kp_split w (s : Int) (k : Int)
  -- what can't be
  have no : ∀ c : Int, sp_split W s k = (c, W) → G Law_changed d 2 64 2 64 693 [some (.ref 0), some (.int (I 4)), some (.int x), some (.int (I (s : Int))), some (.ref a), some (.ref b), some (.int (I ((sg W.1.1 s).1.length : Int))), some (.int (I (sz (sg W.1.1 s).2))), some (.int (I (W.1.1.length : Int))), some (.int (I (k : Int))), some (.int (I 0)), none, none, none, none, none, none, none] [.int (I c)] h Q := by
    intro c e
    refine B_Law_changed_693 ?_
    simp only [wp_cons, wp_nil, List.getElem?_cons_zero, List.getElem?_cons_succ, List.set_cons_zero, List.set_cons_succ, s_istore, p1_s, s1_0, s1_s, kx_i, kx_r, kx_s, kx_n, kx_l, kx_0, s_aload_n0, ldA_r, ldA_n, ldA_s, s_iload_n3, ldI_s, s_iload, s_invokevirtual, rc_s, ob_s, List.drop_succ_cons, List.drop_zero, List.take_succ_cons, List.take_zero, List.reverse_cons, List.reverse_nil, List.nil_append, List.cons_append, List.length_cons, List.length_nil, d1, Int.reduceToNat, Nat.reduceAdd, Nat.reduceLeDiff, true_and, and_true, Nat.le_refl, true_implies, forall_const, not_false_eq_true, false_implies, not_true_eq_false, reduceCtorEq, tl_s, tl_n, rf_s, true_or, or_true, hc]
    refine Pens_split_c (by omega) w hp (by omega) (by omega) (fun h5 c5 p5 => ?_)
    rw [e] at p5 ⊢
    have b5 := hbr.un c5.un hb (show b ≠ 0 by omega)
    have l5 := (List.getElem?_eq_some_iff.mp b5).1
    refine B_Law_changed_702 ?_
    simp only [wp_cons, wp_nil, List.getElem?_cons_zero, List.getElem?_cons_succ, List.set_cons_zero, List.set_cons_succ, s_iload, ldI_s, s_if_icmp_eq, p2_s, true_and, and_true, Nat.le_refl, true_implies, forall_const, not_false_eq_true, false_implies, not_true_eq_false, reduceCtorEq, tl_s, tl_n, rf_s, List.cons_append, List.nil_append, true_or, or_true, hc]
    refine B_Law_changed_709 ?_
    simp only [wp_cons, wp_nil, List.getElem?_cons_zero, List.getElem?_cons_succ, List.set_cons_zero, List.set_cons_succ, s_iload, ldI_s, s_ifCond_eq, p1_s, true_and, and_true, Nat.le_refl, true_implies, forall_const, not_false_eq_true, false_implies, not_true_eq_false, reduceCtorEq, tl_s, tl_n, rf_s, List.cons_append, List.nil_append, true_or, or_true, hc]
    refine B_Law_changed_782 ?_
    simp only [wp_cons, wp_nil, List.getElem?_cons_zero, List.getElem?_cons_succ, List.set_cons_zero, List.set_cons_succ, s_iload, ldI_s, s_ifCond_eq, p1_s, true_and, and_true, Nat.le_refl, true_implies, forall_const, not_false_eq_true, false_implies, not_true_eq_false, reduceCtorEq, tl_s, tl_n, rf_s, List.cons_append, List.nil_append, true_or, or_true, hc]
    refine B_Law_changed_888 ?_
    simp only [wp_cons, wp_nil, List.getElem?_cons_zero, List.getElem?_cons_succ, List.set_cons_zero, List.set_cons_succ, s_goto, true_and, and_true, Nat.le_refl, true_implies, forall_const, not_false_eq_true, false_implies, not_true_eq_false, reduceCtorEq, tl_s, tl_n, rf_s, List.cons_append, List.nil_append, true_or, or_true, hc]
    refine B_Law_changed_1031 ?_
    simp only [wp_cons, wp_nil, List.getElem?_cons_zero, List.getElem?_cons_succ, List.set_cons_zero, List.set_cons_succ, s_iconst, s_ireturn, p1_s, rI_i, rI_z, rI_c, z_01, z_11, rt_Law_changed, true_and, and_true, Nat.le_refl, true_implies, forall_const, not_false_eq_true, false_implies, not_true_eq_false, reduceCtorEq, tl_s, tl_n, rf_s, List.cons_append, List.nil_append, true_or, or_true, hc]
    exact hQ h5 _ w rfl p5 l5
  by_cases z : (sg W.1.1 s).2 = true
  · have ez : sz (sg W.1.1 s).2 = 1 := if_pos z
    rw [if_pos z] at ek
    by_cases c1 : 30 ≤ (sg W.1.1 s).1.length
    · rw [if_pos c1] at ek
      have no := no (-4) ek
      rw [ez] at no ⊢
      refine B_Law_changed_596 ?_
      simp only [wp_cons, wp_nil, List.getElem?_cons_zero, List.getElem?_cons_succ, List.set_cons_zero, List.set_cons_succ, s_istore, p1_s, s1_0, s1_s, kx_i, kx_r, kx_s, kx_n, kx_l, kx_0, s_iload, ldI_s, s_ifCond_eq, true_and, and_true, Nat.le_refl, true_implies, forall_const, not_false_eq_true, false_implies, not_true_eq_false, reduceCtorEq, tl_s, tl_n, rf_s, List.cons_append, List.nil_append, true_or, or_true, hc]
      refine b_eq (by omega) (by omega) (fun cc => absurd cc (by omega)) (fun cc => ?_)
      refine B_Law_changed_603 ?_
      simp only [wp_cons, wp_nil, List.getElem?_cons_zero, List.getElem?_cons_succ, List.set_cons_zero, List.set_cons_succ, s_iload, ldI_s, s_bipush, s_if_icmp_ge, p2_s, true_and, and_true, Nat.le_refl, true_implies, forall_const, not_false_eq_true, false_implies, not_true_eq_false, reduceCtorEq, tl_s, tl_n, rf_s, List.cons_append, List.nil_append, true_or, or_true, hc]
      refine b_le (by omega) (by omega) (fun cc => ?_) (fun cc => absurd cc (by omega))
      refine B_Law_changed_614 ?_
      simp only [wp_cons, wp_nil, List.getElem?_cons_zero, List.getElem?_cons_succ, List.set_cons_zero, List.set_cons_succ, s_iconst, s_goto, true_and, and_true, Nat.le_refl, true_implies, forall_const, not_false_eq_true, false_implies, not_true_eq_false, reduceCtorEq, tl_s, tl_n, rf_s, List.cons_append, List.nil_append, true_or, or_true, hc]
      refine B_Law_changed_644 ?_
      simp only [wp_cons, wp_nil, List.getElem?_cons_zero, List.getElem?_cons_succ, List.set_cons_zero, List.set_cons_succ, s_istore, p1_s, s1_0, s1_s, kx_i, kx_r, kx_s, kx_n, kx_l, kx_0, s_iload, ldI_s, s_ifCond_eq, true_and, and_true, Nat.le_refl, true_implies, forall_const, not_false_eq_true, false_implies, not_true_eq_false, reduceCtorEq, tl_s, tl_n, rf_s, List.cons_append, List.nil_append, true_or, or_true, hc]
      refine B_Law_changed_667 ?_
      simp only [wp_cons, wp_nil, List.getElem?_cons_zero, List.getElem?_cons_succ, List.set_cons_zero, List.set_cons_succ, s_iload, ldI_s, s_ifCond_ne, p1_s, true_and, and_true, Nat.le_refl, true_implies, forall_const, not_false_eq_true, false_implies, not_true_eq_false, reduceCtorEq, tl_s, tl_n, rf_s, List.cons_append, List.nil_append, true_or, or_true, hc]
      refine b_ne (by omega) (by omega) (fun cc => ?_) (fun cc => absurd cc (by omega))
      refine B_Law_changed_691 ?_
      simp only [wp_cons, wp_nil, List.getElem?_cons_zero, List.getElem?_cons_succ, List.set_cons_zero, List.set_cons_succ, s_bipush, true_and, and_true, Nat.le_refl, true_implies, forall_const, not_false_eq_true, false_implies, not_true_eq_false, reduceCtorEq, tl_s, tl_n, rf_s, List.cons_append, List.nil_append, true_or, or_true, hc]
      exact no
    · rw [if_neg c1] at ek
      rw [ez]
      have e0 : (W.1.1.length : Int) + 0 = (W.1.1.length : Int) := by omega
      refine B_Law_changed_596 ?_
      simp only [wp_cons, wp_nil, List.getElem?_cons_zero, List.getElem?_cons_succ, List.set_cons_zero, List.set_cons_succ, s_istore, p1_s, s1_0, s1_s, kx_i, kx_r, kx_s, kx_n, kx_l, kx_0, s_iload, ldI_s, s_ifCond_eq, true_and, and_true, Nat.le_refl, true_implies, forall_const, not_false_eq_true, false_implies, not_true_eq_false, reduceCtorEq, tl_s, tl_n, rf_s, List.cons_append, List.nil_append, true_or, or_true, hc, e0]
      refine b_eq (by omega) (by omega) (fun cc => absurd cc (by omega)) (fun cc => ?_)
      refine B_Law_changed_603 ?_
      simp only [wp_cons, wp_nil, List.getElem?_cons_zero, List.getElem?_cons_succ, List.set_cons_zero, List.set_cons_succ, s_iload, ldI_s, s_bipush, s_if_icmp_ge, p2_s, true_and, and_true, Nat.le_refl, true_implies, forall_const, not_false_eq_true, false_implies, not_true_eq_false, reduceCtorEq, tl_s, tl_n, rf_s, List.cons_append, List.nil_append, true_or, or_true, hc, e0]
      refine b_le (by omega) (by omega) (fun cc => absurd cc (by omega)) (fun cc => ?_)
      refine B_Law_changed_610 ?_
      simp only [wp_cons, wp_nil, List.getElem?_cons_zero, List.getElem?_cons_succ, List.set_cons_zero, List.set_cons_succ, s_iconst, s_goto, true_and, and_true, Nat.le_refl, true_implies, forall_const, not_false_eq_true, false_implies, not_true_eq_false, reduceCtorEq, tl_s, tl_n, rf_s, List.cons_append, List.nil_append, true_or, or_true, hc, e0]
      refine B_Law_changed_644 ?_
      simp only [wp_cons, wp_nil, List.getElem?_cons_zero, List.getElem?_cons_succ, List.set_cons_zero, List.set_cons_succ, s_istore, p1_s, s1_0, s1_s, kx_i, kx_r, kx_s, kx_n, kx_l, kx_0, s_iload, ldI_s, s_ifCond_eq, true_and, and_true, Nat.le_refl, true_implies, forall_const, not_false_eq_true, false_implies, not_true_eq_false, reduceCtorEq, tl_s, tl_n, rf_s, List.cons_append, List.nil_append, true_or, or_true, hc, e0]
      refine b_eq (by omega) (by omega) (fun cc => absurd cc (by omega)) (fun cc => ?_)
      refine B_Law_changed_651 ?_
      simp only [wp_cons, wp_nil, List.getElem?_cons_zero, List.getElem?_cons_succ, List.set_cons_zero, List.set_cons_succ, s_iload, ldI_s, s_ifCond_eq, p1_s, true_and, and_true, Nat.le_refl, true_implies, forall_const, not_false_eq_true, false_implies, not_true_eq_false, reduceCtorEq, tl_s, tl_n, rf_s, List.cons_append, List.nil_append, true_or, or_true, hc, e0]
      refine b_eq (by omega) (by omega) (fun cc => absurd cc (by omega)) (fun cc => ?_)
      refine B_Law_changed_658 ?_
      simp only [wp_cons, wp_nil, List.getElem?_cons_zero, List.getElem?_cons_succ, List.set_cons_zero, List.set_cons_succ, s_iconst, s_goto, true_and, and_true, Nat.le_refl, true_implies, forall_const, not_false_eq_true, false_implies, not_true_eq_false, reduceCtorEq, tl_s, tl_n, rf_s, List.cons_append, List.nil_append, true_or, or_true, hc, e0]
      refine B_Law_changed_663 ?_
      simp only [wp_cons, wp_nil, List.getElem?_cons_zero, List.getElem?_cons_succ, List.set_cons_zero, List.set_cons_succ, s_iadd, p2_s, I_add, s_goto, true_and, and_true, Nat.le_refl, true_implies, forall_const, not_false_eq_true, false_implies, not_true_eq_false, reduceCtorEq, tl_s, tl_n, rf_s, List.cons_append, List.nil_append, true_or, or_true, hc, e0]
      refine B_Law_changed_693 ?_
      simp only [wp_cons, wp_nil, List.getElem?_cons_zero, List.getElem?_cons_succ, List.set_cons_zero, List.set_cons_succ, s_istore, p1_s, s1_0, s1_s, kx_i, kx_r, kx_s, kx_n, kx_l, kx_0, s_aload_n0, ldA_r, ldA_n, ldA_s, s_iload_n3, ldI_s, s_iload, s_invokevirtual, rc_s, ob_s, List.drop_succ_cons, List.drop_zero, List.take_succ_cons, List.take_zero, List.reverse_cons, List.reverse_nil, List.nil_append, List.cons_append, List.length_cons, List.length_nil, d1, Int.reduceToNat, Nat.reduceAdd, Nat.reduceLeDiff, true_and, and_true, Nat.le_refl, true_implies, forall_const, not_false_eq_true, false_implies, not_true_eq_false, reduceCtorEq, tl_s, tl_n, rf_s, true_or, or_true, hc, e0]
      refine Pens_split_c (by omega) w hp (by omega) (by omega) (fun h5 c5 p5 => ?_)
      have es := set_s ((sg W.1.1 s).1.drop k ++ (sg W.1.1 s).1.take (k + 1), false) hs
      have wT := w9
      rw [ek] at p5 w9 ⊢
      have a5 := har.un c5.un ha (show a ≠ 0 by omega)
      have b5 := hbr.un c5.un hb (show b ≠ 0 by omega)
      have a5' : h5[a]? = some (.inl (0, 32, fun i => I (f i))) := a5
      have l5 := (List.getElem?_eq_some_iff.mp b5).1
      obtain ⟨fs5, hc5⟩ := p5.at6
      have hs5 : s < (setD W (W.1.1.set s ((sg W.1.1 s).1.drop k ++ (sg W.1.1 s).1.take (k + 1), false))).1.1.length := by
        show s < (W.1.1.set s _).length
        rw [List.length_set]; exact hs
      have eS : sg (setD W (W.1.1.set s ((sg W.1.1 s).1.drop k ++ (sg W.1.1 s).1.take (k + 1), false))).1.1 s = ((sg W.1.1 s).1.drop k ++ (sg W.1.1 s).1.take (k + 1), false) := es
      have eL : ((sg W.1.1 s).1.drop k ++ (sg W.1.1 s).1.take (k + 1)).length = (sg W.1.1 s).1.length + 1 := by
        rw [List.length_append, List.length_drop, List.length_take]; omega
      have loop : ∀ (m i : Nat), i + m = (sg W.1.1 s).1.length + 1 → G Law_changed d 2 64 2 64 746 [some (.ref 0), some (.int (I 4)), some (.int x), some (.int (I (s : Int))), some (.ref a), some (.ref b), some (.int (I ((sg W.1.1 s).1.length : Int))), some (.int (I 1)), some (.int (I (W.1.1.length : Int))), some (.int (I (k : Int))), some (.int (I 1)), some (.int (I (W.1.1.length : Int))), some (.int (I (i : Int))), none, none, none, none, none] [] h5 Q := by
        intro m
        induction m with
        | zero =>
          intro i hi
          refine B_Law_changed_746 ?_
          simp only [wp_cons, wp_nil, List.getElem?_cons_zero, List.getElem?_cons_succ, List.set_cons_zero, List.set_cons_succ, s_iload, ldI_s, s_if_icmp_gt, p2_s, true_and, and_true, Nat.le_refl, true_implies, forall_const, not_false_eq_true, false_implies, not_true_eq_false, reduceCtorEq, tl_s, tl_n, rf_s, List.cons_append, List.nil_append, true_or, or_true, hc, e0]
          refine b_lt (by omega) (by omega) (fun cc => ?_) (fun cc => absurd cc (by omega))
          refine B_Law_changed_782 ?_
          simp only [wp_cons, wp_nil, List.getElem?_cons_zero, List.getElem?_cons_succ, List.set_cons_zero, List.set_cons_succ, s_iload, ldI_s, s_ifCond_eq, p1_s, true_and, and_true, Nat.le_refl, true_implies, forall_const, not_false_eq_true, false_implies, not_true_eq_false, reduceCtorEq, tl_s, tl_n, rf_s, List.cons_append, List.nil_append, true_or, or_true, hc, e0]
          refine b_eq (by omega) (by omega) (fun cc => absurd cc (by omega)) (fun cc => ?_)
          refine B_Law_changed_787 ?_
          simp only [wp_cons, wp_nil, List.getElem?_cons_zero, List.getElem?_cons_succ, List.set_cons_zero, List.set_cons_succ, s_iload, ldI_s, s_ifCond_ne, p1_s, true_and, and_true, Nat.le_refl, true_implies, forall_const, not_false_eq_true, false_implies, not_true_eq_false, reduceCtorEq, tl_s, tl_n, rf_s, List.cons_append, List.nil_append, true_or, or_true, hc, e0]
          refine b_ne (by omega) (by omega) (fun cc => ?_) (fun cc => absurd cc (by omega))
          refine B_Law_changed_888 ?_
          simp only [wp_cons, wp_nil, List.getElem?_cons_zero, List.getElem?_cons_succ, List.set_cons_zero, List.set_cons_succ, s_goto, true_and, and_true, Nat.le_refl, true_implies, forall_const, not_false_eq_true, false_implies, not_true_eq_false, reduceCtorEq, tl_s, tl_n, rf_s, List.cons_append, List.nil_append, true_or, or_true, hc, e0]
          refine B_Law_changed_1031 ?_
          simp only [wp_cons, wp_nil, List.getElem?_cons_zero, List.getElem?_cons_succ, List.set_cons_zero, List.set_cons_succ, s_iconst, s_ireturn, p1_s, rI_i, rI_z, rI_c, z_01, z_11, rt_Law_changed, true_and, and_true, Nat.le_refl, true_implies, forall_const, not_false_eq_true, false_implies, not_true_eq_false, reduceCtorEq, tl_s, tl_n, rf_s, List.cons_append, List.nil_append, true_or, or_true, hc, e0]
          exact hQ h5 _ w9 rfl p5 l5
        | succ m ih =>
          intro i hi
          have em : (i : Int) + 1 = ((i + 1 : Nat) : Int) := by omega
          have nx := ih (i + 1) (by omega)
          have ekk : I ((k : Int) + (i : Int)) - I ((k : Int) + (i : Int)) / I ((sg W.1.1 s).1.length : Int) * I ((sg W.1.1 s).1.length : Int) = I (((k + i) % (sg W.1.1 s).1.length : Nat) : Int) := by
            rw [I_rem_n (by omega) (by omega)]; congr 1
          have hmod := Nat.mod_lt (k + i) (show (sg W.1.1 s).1.length > 0 by omega)
          have epg : pg ((sg W.1.1 s).1.drop k ++ (sg W.1.1 s).1.take (k + 1)) i = pg (sg W.1.1 s).1 ((k + i) % (sg W.1.1 s).1.length) := by
            by_cases c : i < (sg W.1.1 s).1.length - k
            · rw [pg_app_l _ _ (by rw [List.length_drop]; exact c), pg_drop, Nat.mod_eq_of_lt (by omega)]
            · rw [pg_app_r _ _ (by rw [List.length_drop]; omega), List.length_drop, pg_take _ (by omega)]
              congr 1
              by_cases c2 : i = (sg W.1.1 s).1.length - k + k
              · have e3 : k + i = (sg W.1.1 s).1.length + k := by omega
                rw [e3, Nat.add_mod_left, Nat.mod_eq_of_lt hk]; omega
              · have e3 : k + i = (sg W.1.1 s).1.length + (i - ((sg W.1.1 s).1.length - k)) := by omega
                rw [e3, Nat.add_mod_left, Nat.mod_eq_of_lt (by omega)]
          refine B_Law_changed_746 ?_
          simp only [wp_cons, wp_nil, List.getElem?_cons_zero, List.getElem?_cons_succ, List.set_cons_zero, List.set_cons_succ, s_iload, ldI_s, s_if_icmp_gt, p2_s, true_and, and_true, Nat.le_refl, true_implies, forall_const, not_false_eq_true, false_implies, not_true_eq_false, reduceCtorEq, tl_s, tl_n, rf_s, List.cons_append, List.nil_append, true_or, or_true, hc5]
          refine b_lt (by omega) (by omega) (fun cc => absurd cc (by omega)) (fun cc => ?_)
          refine B_Law_changed_753 ?_
          simp only [wp_cons, wp_nil, List.getElem?_cons_zero, List.getElem?_cons_succ, List.set_cons_zero, List.set_cons_succ, s_aload_n0, ldA_r, ldA_n, ldA_s, s_iload_n3, ldI_s, s_iload, s_invokevirtual, rc_s, ob_s, List.drop_succ_cons, List.drop_zero, List.take_succ_cons, List.take_zero, List.reverse_cons, List.reverse_nil, List.nil_append, List.cons_append, List.length_cons, List.length_nil, d1, Int.reduceToNat, Nat.reduceAdd, Nat.reduceLeDiff, true_and, and_true, Nat.le_refl, true_implies, forall_const, not_false_eq_true, false_implies, not_true_eq_false, reduceCtorEq, tl_s, tl_n, rf_s, true_or, or_true, hc5]
          refine Pens_point_c (by omega) w9 p5 (by omega) (by omega) ?_
          rw [sp_point_k hs5 (by rw [eS]; show i < (_ ++ _ : List Int).length; omega), eS]
          rw [show pg ((sg W.1.1 s).1.drop k ++ (sg W.1.1 s).1.take (k + 1), false).1 i = pg (sg W.1.1 s).1 ((k + i) % (sg W.1.1 s).1.length) from epg]
          refine B_Law_changed_760 ?_
          simp only [wp_cons, wp_nil, List.getElem?_cons_zero, List.getElem?_cons_succ, List.set_cons_zero, List.set_cons_succ, s_aload, ldA_r, ldA_n, ldA_s, s_iload, ldI_s, s_iadd, p2_s, I_add, s_irem, ne_k1000, ne_k2, s_iaload, iR_s, ia_s, s_if_icmp_eq, true_and, and_true, Nat.le_refl, true_implies, forall_const, not_false_eq_true, false_implies, not_true_eq_false, reduceCtorEq, tl_s, tl_n, rf_s, List.cons_append, List.nil_append, true_or, or_true, a5', ekk, ne_n (n := (sg W.1.1 s).1.length) (by omega), ex_ix (i := (k + i) % (sg W.1.1 s).1.length) (n := 32) (by omega), tk.k (k := (k + i) % (sg W.1.1 s).1.length) hmod, em]
          refine B_Law_changed_776 ?_
          simp only [wp_cons, wp_nil, List.getElem?_cons_zero, List.getElem?_cons_succ, List.set_cons_zero, List.set_cons_succ, s_iinc, ldI_s, s1_0, s1_s, kx_i, kx_r, kx_s, kx_n, kx_l, kx_0, I_add, s_goto, true_and, and_true, Nat.le_refl, true_implies, forall_const, not_false_eq_true, false_implies, not_true_eq_false, reduceCtorEq, tl_s, tl_n, rf_s, List.cons_append, List.nil_append, true_or, or_true, a5', ekk, ne_n (n := (sg W.1.1 s).1.length) (by omega), ex_ix (i := (k + i) % (sg W.1.1 s).1.length) (n := 32) (by omega), tk.k (k := (k + i) % (sg W.1.1 s).1.length) hmod, em]
          exact nx
      refine B_Law_changed_702 ?_
      simp only [wp_cons, wp_nil, List.getElem?_cons_zero, List.getElem?_cons_succ, List.set_cons_zero, List.set_cons_succ, s_iload, ldI_s, s_if_icmp_eq, p2_s, true_and, and_true, Nat.le_refl, true_implies, forall_const, not_false_eq_true, false_implies, not_true_eq_false, reduceCtorEq, tl_s, tl_n, rf_s, List.cons_append, List.nil_append, true_or, or_true, hc5]
      refine B_Law_changed_709 ?_
      simp only [wp_cons, wp_nil, List.getElem?_cons_zero, List.getElem?_cons_succ, List.set_cons_zero, List.set_cons_succ, s_iload, ldI_s, s_ifCond_eq, p1_s, true_and, and_true, Nat.le_refl, true_implies, forall_const, not_false_eq_true, false_implies, not_true_eq_false, reduceCtorEq, tl_s, tl_n, rf_s, List.cons_append, List.nil_append, true_or, or_true, hc5]
      refine b_eq (by omega) (by omega) (fun cc => absurd cc (by omega)) (fun cc => ?_)
      refine B_Law_changed_714 ?_
      simp only [wp_cons, wp_nil, List.getElem?_cons_zero, List.getElem?_cons_succ, List.set_cons_zero, List.set_cons_succ, s_iload, ldI_s, s_ifCond_eq, p1_s, true_and, and_true, Nat.le_refl, true_implies, forall_const, not_false_eq_true, false_implies, not_true_eq_false, reduceCtorEq, tl_s, tl_n, rf_s, List.cons_append, List.nil_append, true_or, or_true, hc5]
      refine b_eq (by omega) (by omega) (fun cc => absurd cc (by omega)) (fun cc => ?_)
      refine B_Law_changed_719 ?_
      simp only [wp_cons, wp_nil, List.getElem?_cons_zero, List.getElem?_cons_succ, List.set_cons_zero, List.set_cons_succ, s_aload_n0, ldA_r, ldA_n, ldA_s, s_iload_n3, ldI_s, s_iconst, s_invokevirtual, rc_s, ob_s, List.drop_succ_cons, List.drop_zero, List.take_succ_cons, List.take_zero, List.reverse_cons, List.reverse_nil, List.nil_append, List.cons_append, List.length_cons, List.length_nil, d1, Int.reduceToNat, Nat.reduceAdd, Nat.reduceLeDiff, true_and, and_true, Nat.le_refl, true_implies, forall_const, not_false_eq_true, false_implies, not_true_eq_false, reduceCtorEq, tl_s, tl_n, rf_s, true_or, or_true, hc5]
      refine Pens_of_c (by omega) w9 p5 (by omega) (by omega) ?_
      rw [sp_of_0 hs5, eS, show (((sg W.1.1 s).1.drop k ++ (sg W.1.1 s).1.take (k + 1), false).1.length : Int) = ((sg W.1.1 s).1.length : Int) + 1 by show (((_ ++ _ : List Int)).length : Int) = _; omega]
      refine B_Law_changed_725 ?_
      simp only [wp_cons, wp_nil, List.getElem?_cons_zero, List.getElem?_cons_succ, List.set_cons_zero, List.set_cons_succ, s_iload, ldI_s, s_iconst, s_iadd, p2_s, I_add, s_if_icmp_ne, true_and, and_true, Nat.le_refl, true_implies, forall_const, not_false_eq_true, false_implies, not_true_eq_false, reduceCtorEq, tl_s, tl_n, rf_s, List.cons_append, List.nil_append, true_or, or_true, hc5]
      refine B_Law_changed_732 ?_
      simp only [wp_cons, wp_nil, List.getElem?_cons_zero, List.getElem?_cons_succ, List.set_cons_zero, List.set_cons_succ, s_aload_n0, ldA_r, ldA_n, ldA_s, s_iload_n3, ldI_s, s_iconst, s_invokevirtual, rc_s, ob_s, List.drop_succ_cons, List.drop_zero, List.take_succ_cons, List.take_zero, List.reverse_cons, List.reverse_nil, List.nil_append, List.cons_append, List.length_cons, List.length_nil, d1, Int.reduceToNat, Nat.reduceAdd, Nat.reduceLeDiff, true_and, and_true, Nat.le_refl, true_implies, forall_const, not_false_eq_true, false_implies, not_true_eq_false, reduceCtorEq, tl_s, tl_n, rf_s, true_or, or_true, hc5]
      refine Pens_of_c (by omega) w9 p5 (by omega) (by omega) ?_
      rw [(sp_of_lit hs5).1, eS, show sz ((sg W.1.1 s).1.drop k ++ (sg W.1.1 s).1.take (k + 1), false).2 = 0 from rfl]
      refine B_Law_changed_738 ?_
      simp only [wp_cons, wp_nil, List.getElem?_cons_zero, List.getElem?_cons_succ, List.set_cons_zero, List.set_cons_succ, s_ifCond_eq, p1_s, true_and, and_true, Nat.le_refl, true_implies, forall_const, not_false_eq_true, false_implies, not_true_eq_false, reduceCtorEq, tl_s, tl_n, rf_s, List.cons_append, List.nil_append, true_or, or_true, hc5]
      refine B_Law_changed_743 ?_
      simp only [wp_cons, wp_nil, List.getElem?_cons_zero, List.getElem?_cons_succ, List.set_cons_zero, List.set_cons_succ, s_iconst, s_istore, p1_s, s1_0, s1_s, kx_i, kx_r, kx_s, kx_n, kx_l, kx_0, true_and, and_true, Nat.le_refl, true_implies, forall_const, not_false_eq_true, false_implies, not_true_eq_false, reduceCtorEq, tl_s, tl_n, rf_s, List.cons_append, List.nil_append, true_or, or_true, hc5]
      exact loop ((sg W.1.1 s).1.length + 1) 0 (by omega)
  · have ez : sz (sg W.1.1 s).2 = 0 := if_neg z
    rw [if_neg z] at ek
    by_cases c1 : k = 0
    · subst c1
      have e9 : ((0 : Nat) : Int) = 0 := rfl
      rw [if_pos (Or.inl e9)] at ek
      have no := no (-3) ek
      rw [ez] at no ⊢
      rw [show ((0 : Nat) : Int) = 0 from rfl] at no ⊢
      refine B_Law_changed_596 ?_
      simp only [wp_cons, wp_nil, List.getElem?_cons_zero, List.getElem?_cons_succ, List.set_cons_zero, List.set_cons_succ, s_istore, p1_s, s1_0, s1_s, kx_i, kx_r, kx_s, kx_n, kx_l, kx_0, s_iload, ldI_s, s_ifCond_eq, true_and, and_true, Nat.le_refl, true_implies, forall_const, not_false_eq_true, false_implies, not_true_eq_false, reduceCtorEq, tl_s, tl_n, rf_s, List.cons_append, List.nil_append, true_or, or_true, hc]
      refine B_Law_changed_618 ?_
      simp only [wp_cons, wp_nil, List.getElem?_cons_zero, List.getElem?_cons_succ, List.set_cons_zero, List.set_cons_succ, s_iload, ldI_s, s_ifCond_le, p1_s, true_and, and_true, Nat.le_refl, true_implies, forall_const, not_false_eq_true, false_implies, not_true_eq_false, reduceCtorEq, tl_s, tl_n, rf_s, List.cons_append, List.nil_append, true_or, or_true, hc]
      refine b_le (by omega) (by omega) (fun cc => ?_) (fun cc => absurd cc (by omega))
      refine B_Law_changed_643 ?_
      simp only [wp_cons, wp_nil, List.getElem?_cons_zero, List.getElem?_cons_succ, List.set_cons_zero, List.set_cons_succ, s_iconst, true_and, and_true, Nat.le_refl, true_implies, forall_const, not_false_eq_true, false_implies, not_true_eq_false, reduceCtorEq, tl_s, tl_n, rf_s, List.cons_append, List.nil_append, true_or, or_true, hc]
      refine B_Law_changed_644 ?_
      simp only [wp_cons, wp_nil, List.getElem?_cons_zero, List.getElem?_cons_succ, List.set_cons_zero, List.set_cons_succ, s_istore, p1_s, s1_0, s1_s, kx_i, kx_r, kx_s, kx_n, kx_l, kx_0, s_iload, ldI_s, s_ifCond_eq, true_and, and_true, Nat.le_refl, true_implies, forall_const, not_false_eq_true, false_implies, not_true_eq_false, reduceCtorEq, tl_s, tl_n, rf_s, List.cons_append, List.nil_append, true_or, or_true, hc]
      refine B_Law_changed_667 ?_
      simp only [wp_cons, wp_nil, List.getElem?_cons_zero, List.getElem?_cons_succ, List.set_cons_zero, List.set_cons_succ, s_iload, ldI_s, s_ifCond_ne, p1_s, true_and, and_true, Nat.le_refl, true_implies, forall_const, not_false_eq_true, false_implies, not_true_eq_false, reduceCtorEq, tl_s, tl_n, rf_s, List.cons_append, List.nil_append, true_or, or_true, hc]
      refine B_Law_changed_672 ?_
      simp only [wp_cons, wp_nil, List.getElem?_cons_zero, List.getElem?_cons_succ, List.set_cons_zero, List.set_cons_succ, s_iload, ldI_s, s_ifCond_eq, p1_s, true_and, and_true, Nat.le_refl, true_implies, forall_const, not_false_eq_true, false_implies, not_true_eq_false, reduceCtorEq, tl_s, tl_n, rf_s, List.cons_append, List.nil_append, true_or, or_true, hc]
      refine B_Law_changed_686 ?_
      simp only [wp_cons, wp_nil, List.getElem?_cons_zero, List.getElem?_cons_succ, List.set_cons_zero, List.set_cons_succ, s_bipush, s_goto, true_and, and_true, Nat.le_refl, true_implies, forall_const, not_false_eq_true, false_implies, not_true_eq_false, reduceCtorEq, tl_s, tl_n, rf_s, List.cons_append, List.nil_append, true_or, or_true, hc]
      exact no
    · by_cases c2 : (k : Int) = ((sg W.1.1 s).1.length : Int) - 1
      · rw [if_pos (Or.inr c2)] at ek
        have no := no (-3) ek
        rw [ez] at no ⊢
        refine B_Law_changed_596 ?_
        simp only [wp_cons, wp_nil, List.getElem?_cons_zero, List.getElem?_cons_succ, List.set_cons_zero, List.set_cons_succ, s_istore, p1_s, s1_0, s1_s, kx_i, kx_r, kx_s, kx_n, kx_l, kx_0, s_iload, ldI_s, s_ifCond_eq, true_and, and_true, Nat.le_refl, true_implies, forall_const, not_false_eq_true, false_implies, not_true_eq_false, reduceCtorEq, tl_s, tl_n, rf_s, List.cons_append, List.nil_append, true_or, or_true, hc]
        refine B_Law_changed_618 ?_
        simp only [wp_cons, wp_nil, List.getElem?_cons_zero, List.getElem?_cons_succ, List.set_cons_zero, List.set_cons_succ, s_iload, ldI_s, s_ifCond_le, p1_s, true_and, and_true, Nat.le_refl, true_implies, forall_const, not_false_eq_true, false_implies, not_true_eq_false, reduceCtorEq, tl_s, tl_n, rf_s, List.cons_append, List.nil_append, true_or, or_true, hc]
        refine b_le (by omega) (by omega) (fun cc => absurd cc (by omega)) (fun cc => ?_)
        refine B_Law_changed_623 ?_
        simp only [wp_cons, wp_nil, List.getElem?_cons_zero, List.getElem?_cons_succ, List.set_cons_zero, List.set_cons_succ, s_iload, ldI_s, s_iconst, s_isub, p2_s, I_sub, s_if_icmp_ge, true_and, and_true, Nat.le_refl, true_implies, forall_const, not_false_eq_true, false_implies, not_true_eq_false, reduceCtorEq, tl_s, tl_n, rf_s, List.cons_append, List.nil_append, true_or, or_true, hc]
        refine b_le (by omega) (by omega) (fun cc => ?_) (fun cc => absurd cc (by omega))
        refine B_Law_changed_643 ?_
        simp only [wp_cons, wp_nil, List.getElem?_cons_zero, List.getElem?_cons_succ, List.set_cons_zero, List.set_cons_succ, s_iconst, true_and, and_true, Nat.le_refl, true_implies, forall_const, not_false_eq_true, false_implies, not_true_eq_false, reduceCtorEq, tl_s, tl_n, rf_s, List.cons_append, List.nil_append, true_or, or_true, hc]
        refine B_Law_changed_644 ?_
        simp only [wp_cons, wp_nil, List.getElem?_cons_zero, List.getElem?_cons_succ, List.set_cons_zero, List.set_cons_succ, s_istore, p1_s, s1_0, s1_s, kx_i, kx_r, kx_s, kx_n, kx_l, kx_0, s_iload, ldI_s, s_ifCond_eq, true_and, and_true, Nat.le_refl, true_implies, forall_const, not_false_eq_true, false_implies, not_true_eq_false, reduceCtorEq, tl_s, tl_n, rf_s, List.cons_append, List.nil_append, true_or, or_true, hc]
        refine B_Law_changed_667 ?_
        simp only [wp_cons, wp_nil, List.getElem?_cons_zero, List.getElem?_cons_succ, List.set_cons_zero, List.set_cons_succ, s_iload, ldI_s, s_ifCond_ne, p1_s, true_and, and_true, Nat.le_refl, true_implies, forall_const, not_false_eq_true, false_implies, not_true_eq_false, reduceCtorEq, tl_s, tl_n, rf_s, List.cons_append, List.nil_append, true_or, or_true, hc]
        refine B_Law_changed_672 ?_
        simp only [wp_cons, wp_nil, List.getElem?_cons_zero, List.getElem?_cons_succ, List.set_cons_zero, List.set_cons_succ, s_iload, ldI_s, s_ifCond_eq, p1_s, true_and, and_true, Nat.le_refl, true_implies, forall_const, not_false_eq_true, false_implies, not_true_eq_false, reduceCtorEq, tl_s, tl_n, rf_s, List.cons_append, List.nil_append, true_or, or_true, hc]
        refine b_eq (by omega) (by omega) (fun cc => absurd cc (by omega)) (fun cc => ?_)
        refine B_Law_changed_677 ?_
        simp only [wp_cons, wp_nil, List.getElem?_cons_zero, List.getElem?_cons_succ, List.set_cons_zero, List.set_cons_succ, s_iload, ldI_s, s_iconst, s_isub, p2_s, I_sub, s_if_icmp_ne, true_and, and_true, Nat.le_refl, true_implies, forall_const, not_false_eq_true, false_implies, not_true_eq_false, reduceCtorEq, tl_s, tl_n, rf_s, List.cons_append, List.nil_append, true_or, or_true, hc]
        refine b_ne (by omega) (by omega) (fun cc => absurd cc (by omega)) (fun cc => ?_)
        refine B_Law_changed_686 ?_
        simp only [wp_cons, wp_nil, List.getElem?_cons_zero, List.getElem?_cons_succ, List.set_cons_zero, List.set_cons_succ, s_bipush, s_goto, true_and, and_true, Nat.le_refl, true_implies, forall_const, not_false_eq_true, false_implies, not_true_eq_false, reduceCtorEq, tl_s, tl_n, rf_s, List.cons_append, List.nil_append, true_or, or_true, hc]
        exact no
      · rw [if_neg (fun q => q.elim (fun q => by omega) c2)] at ek
        by_cases c3 : 10 ≤ W.1.1.length
        · rw [if_pos c3] at ek
          have no := no (-4) ek
          rw [ez] at no ⊢
          refine B_Law_changed_596 ?_
          simp only [wp_cons, wp_nil, List.getElem?_cons_zero, List.getElem?_cons_succ, List.set_cons_zero, List.set_cons_succ, s_istore, p1_s, s1_0, s1_s, kx_i, kx_r, kx_s, kx_n, kx_l, kx_0, s_iload, ldI_s, s_ifCond_eq, true_and, and_true, Nat.le_refl, true_implies, forall_const, not_false_eq_true, false_implies, not_true_eq_false, reduceCtorEq, tl_s, tl_n, rf_s, List.cons_append, List.nil_append, true_or, or_true, hc]
          refine B_Law_changed_618 ?_
          simp only [wp_cons, wp_nil, List.getElem?_cons_zero, List.getElem?_cons_succ, List.set_cons_zero, List.set_cons_succ, s_iload, ldI_s, s_ifCond_le, p1_s, true_and, and_true, Nat.le_refl, true_implies, forall_const, not_false_eq_true, false_implies, not_true_eq_false, reduceCtorEq, tl_s, tl_n, rf_s, List.cons_append, List.nil_append, true_or, or_true, hc]
          refine b_le (by omega) (by omega) (fun cc => absurd cc (by omega)) (fun cc => ?_)
          refine B_Law_changed_623 ?_
          simp only [wp_cons, wp_nil, List.getElem?_cons_zero, List.getElem?_cons_succ, List.set_cons_zero, List.set_cons_succ, s_iload, ldI_s, s_iconst, s_isub, p2_s, I_sub, s_if_icmp_ge, true_and, and_true, Nat.le_refl, true_implies, forall_const, not_false_eq_true, false_implies, not_true_eq_false, reduceCtorEq, tl_s, tl_n, rf_s, List.cons_append, List.nil_append, true_or, or_true, hc]
          refine b_le (by omega) (by omega) (fun cc => absurd cc (by omega)) (fun cc => ?_)
          refine B_Law_changed_632 ?_
          simp only [wp_cons, wp_nil, List.getElem?_cons_zero, List.getElem?_cons_succ, List.set_cons_zero, List.set_cons_succ, s_iload, ldI_s, s_bipush, s_if_icmp_ge, p2_s, true_and, and_true, Nat.le_refl, true_implies, forall_const, not_false_eq_true, false_implies, not_true_eq_false, reduceCtorEq, tl_s, tl_n, rf_s, List.cons_append, List.nil_append, true_or, or_true, hc]
          refine b_le (by omega) (by omega) (fun cc => ?_) (fun cc => absurd cc (by omega))
          refine B_Law_changed_643 ?_
          simp only [wp_cons, wp_nil, List.getElem?_cons_zero, List.getElem?_cons_succ, List.set_cons_zero, List.set_cons_succ, s_iconst, true_and, and_true, Nat.le_refl, true_implies, forall_const, not_false_eq_true, false_implies, not_true_eq_false, reduceCtorEq, tl_s, tl_n, rf_s, List.cons_append, List.nil_append, true_or, or_true, hc]
          refine B_Law_changed_644 ?_
          simp only [wp_cons, wp_nil, List.getElem?_cons_zero, List.getElem?_cons_succ, List.set_cons_zero, List.set_cons_succ, s_istore, p1_s, s1_0, s1_s, kx_i, kx_r, kx_s, kx_n, kx_l, kx_0, s_iload, ldI_s, s_ifCond_eq, true_and, and_true, Nat.le_refl, true_implies, forall_const, not_false_eq_true, false_implies, not_true_eq_false, reduceCtorEq, tl_s, tl_n, rf_s, List.cons_append, List.nil_append, true_or, or_true, hc]
          refine B_Law_changed_667 ?_
          simp only [wp_cons, wp_nil, List.getElem?_cons_zero, List.getElem?_cons_succ, List.set_cons_zero, List.set_cons_succ, s_iload, ldI_s, s_ifCond_ne, p1_s, true_and, and_true, Nat.le_refl, true_implies, forall_const, not_false_eq_true, false_implies, not_true_eq_false, reduceCtorEq, tl_s, tl_n, rf_s, List.cons_append, List.nil_append, true_or, or_true, hc]
          refine B_Law_changed_672 ?_
          simp only [wp_cons, wp_nil, List.getElem?_cons_zero, List.getElem?_cons_succ, List.set_cons_zero, List.set_cons_succ, s_iload, ldI_s, s_ifCond_eq, p1_s, true_and, and_true, Nat.le_refl, true_implies, forall_const, not_false_eq_true, false_implies, not_true_eq_false, reduceCtorEq, tl_s, tl_n, rf_s, List.cons_append, List.nil_append, true_or, or_true, hc]
          refine b_eq (by omega) (by omega) (fun cc => absurd cc (by omega)) (fun cc => ?_)
          refine B_Law_changed_677 ?_
          simp only [wp_cons, wp_nil, List.getElem?_cons_zero, List.getElem?_cons_succ, List.set_cons_zero, List.set_cons_succ, s_iload, ldI_s, s_iconst, s_isub, p2_s, I_sub, s_if_icmp_ne, true_and, and_true, Nat.le_refl, true_implies, forall_const, not_false_eq_true, false_implies, not_true_eq_false, reduceCtorEq, tl_s, tl_n, rf_s, List.cons_append, List.nil_append, true_or, or_true, hc]
          refine b_ne (by omega) (by omega) (fun cc => ?_) (fun cc => absurd cc (by omega))
          refine B_Law_changed_691 ?_
          simp only [wp_cons, wp_nil, List.getElem?_cons_zero, List.getElem?_cons_succ, List.set_cons_zero, List.set_cons_succ, s_bipush, true_and, and_true, Nat.le_refl, true_implies, forall_const, not_false_eq_true, false_implies, not_true_eq_false, reduceCtorEq, tl_s, tl_n, rf_s, List.cons_append, List.nil_append, true_or, or_true, hc]
          exact no
        · rw [if_neg c3] at ek
          rw [ez]
          refine B_Law_changed_596 ?_
          simp only [wp_cons, wp_nil, List.getElem?_cons_zero, List.getElem?_cons_succ, List.set_cons_zero, List.set_cons_succ, s_istore, p1_s, s1_0, s1_s, kx_i, kx_r, kx_s, kx_n, kx_l, kx_0, s_iload, ldI_s, s_ifCond_eq, true_and, and_true, Nat.le_refl, true_implies, forall_const, not_false_eq_true, false_implies, not_true_eq_false, reduceCtorEq, tl_s, tl_n, rf_s, List.cons_append, List.nil_append, true_or, or_true, hc]
          refine B_Law_changed_618 ?_
          simp only [wp_cons, wp_nil, List.getElem?_cons_zero, List.getElem?_cons_succ, List.set_cons_zero, List.set_cons_succ, s_iload, ldI_s, s_ifCond_le, p1_s, true_and, and_true, Nat.le_refl, true_implies, forall_const, not_false_eq_true, false_implies, not_true_eq_false, reduceCtorEq, tl_s, tl_n, rf_s, List.cons_append, List.nil_append, true_or, or_true, hc]
          refine b_le (by omega) (by omega) (fun cc => absurd cc (by omega)) (fun cc => ?_)
          refine B_Law_changed_623 ?_
          simp only [wp_cons, wp_nil, List.getElem?_cons_zero, List.getElem?_cons_succ, List.set_cons_zero, List.set_cons_succ, s_iload, ldI_s, s_iconst, s_isub, p2_s, I_sub, s_if_icmp_ge, true_and, and_true, Nat.le_refl, true_implies, forall_const, not_false_eq_true, false_implies, not_true_eq_false, reduceCtorEq, tl_s, tl_n, rf_s, List.cons_append, List.nil_append, true_or, or_true, hc]
          refine b_le (by omega) (by omega) (fun cc => absurd cc (by omega)) (fun cc => ?_)
          refine B_Law_changed_632 ?_
          simp only [wp_cons, wp_nil, List.getElem?_cons_zero, List.getElem?_cons_succ, List.set_cons_zero, List.set_cons_succ, s_iload, ldI_s, s_bipush, s_if_icmp_ge, p2_s, true_and, and_true, Nat.le_refl, true_implies, forall_const, not_false_eq_true, false_implies, not_true_eq_false, reduceCtorEq, tl_s, tl_n, rf_s, List.cons_append, List.nil_append, true_or, or_true, hc]
          refine b_le (by omega) (by omega) (fun cc => absurd cc (by omega)) (fun cc => ?_)
          refine B_Law_changed_639 ?_
          simp only [wp_cons, wp_nil, List.getElem?_cons_zero, List.getElem?_cons_succ, List.set_cons_zero, List.set_cons_succ, s_iconst, s_goto, true_and, and_true, Nat.le_refl, true_implies, forall_const, not_false_eq_true, false_implies, not_true_eq_false, reduceCtorEq, tl_s, tl_n, rf_s, List.cons_append, List.nil_append, true_or, or_true, hc]
          refine B_Law_changed_644 ?_
          simp only [wp_cons, wp_nil, List.getElem?_cons_zero, List.getElem?_cons_succ, List.set_cons_zero, List.set_cons_succ, s_istore, p1_s, s1_0, s1_s, kx_i, kx_r, kx_s, kx_n, kx_l, kx_0, s_iload, ldI_s, s_ifCond_eq, true_and, and_true, Nat.le_refl, true_implies, forall_const, not_false_eq_true, false_implies, not_true_eq_false, reduceCtorEq, tl_s, tl_n, rf_s, List.cons_append, List.nil_append, true_or, or_true, hc]
          refine b_eq (by omega) (by omega) (fun cc => absurd cc (by omega)) (fun cc => ?_)
          refine B_Law_changed_651 ?_
          simp only [wp_cons, wp_nil, List.getElem?_cons_zero, List.getElem?_cons_succ, List.set_cons_zero, List.set_cons_succ, s_iload, ldI_s, s_ifCond_eq, p1_s, true_and, and_true, Nat.le_refl, true_implies, forall_const, not_false_eq_true, false_implies, not_true_eq_false, reduceCtorEq, tl_s, tl_n, rf_s, List.cons_append, List.nil_append, true_or, or_true, hc]
          refine B_Law_changed_662 ?_
          simp only [wp_cons, wp_nil, List.getElem?_cons_zero, List.getElem?_cons_succ, List.set_cons_zero, List.set_cons_succ, s_iconst, true_and, and_true, Nat.le_refl, true_implies, forall_const, not_false_eq_true, false_implies, not_true_eq_false, reduceCtorEq, tl_s, tl_n, rf_s, List.cons_append, List.nil_append, true_or, or_true, hc]
          refine B_Law_changed_663 ?_
          simp only [wp_cons, wp_nil, List.getElem?_cons_zero, List.getElem?_cons_succ, List.set_cons_zero, List.set_cons_succ, s_iadd, p2_s, I_add, s_goto, true_and, and_true, Nat.le_refl, true_implies, forall_const, not_false_eq_true, false_implies, not_true_eq_false, reduceCtorEq, tl_s, tl_n, rf_s, List.cons_append, List.nil_append, true_or, or_true, hc]
          refine B_Law_changed_693 ?_
          simp only [wp_cons, wp_nil, List.getElem?_cons_zero, List.getElem?_cons_succ, List.set_cons_zero, List.set_cons_succ, s_istore, p1_s, s1_0, s1_s, kx_i, kx_r, kx_s, kx_n, kx_l, kx_0, s_aload_n0, ldA_r, ldA_n, ldA_s, s_iload_n3, ldI_s, s_iload, s_invokevirtual, rc_s, ob_s, List.drop_succ_cons, List.drop_zero, List.take_succ_cons, List.take_zero, List.reverse_cons, List.reverse_nil, List.nil_append, List.cons_append, List.length_cons, List.length_nil, d1, Int.reduceToNat, Nat.reduceAdd, Nat.reduceLeDiff, true_and, and_true, Nat.le_refl, true_implies, forall_const, not_false_eq_true, false_implies, not_true_eq_false, reduceCtorEq, tl_s, tl_n, rf_s, true_or, or_true, hc]
          refine Pens_split_c (by omega) w hp (by omega) (by omega) (fun h5 c5 p5 => ?_)
          rw [ek] at p5 w9 ⊢
          have a5 := har.un c5.un ha (show a ≠ 0 by omega)
          have b5 := hbr.un c5.un hb (show b ≠ 0 by omega)
          have a5' : h5[a]? = some (.inl (0, 32, fun i => I (f i))) := a5
          have l5 := (List.getElem?_eq_some_iff.mp b5).1
          obtain ⟨fs5, hc5⟩ := p5.at6
          have hlen5 : (setD W (W.1.1.set s ((sg W.1.1 s).1.take (k + 1), false) ++ [((sg W.1.1 s).1.drop k, false)])).1.1.length = W.1.1.length + 1 := by
            show (W.1.1.set s _ ++ [_]).length = _
            rw [List.length_append, List.length_set]; rfl
          have eS : sg (setD W (W.1.1.set s ((sg W.1.1 s).1.take (k + 1), false) ++ [((sg W.1.1 s).1.drop k, false)])).1.1 s = ((sg W.1.1 s).1.take (k + 1), false) := by
            show sg (W.1.1.set s _ ++ [_]) s = _
            rw [sg_app_l _ _ (by rw [List.length_set]; exact hs), set_s _ hs]
          have eT : sg (setD W (W.1.1.set s ((sg W.1.1 s).1.take (k + 1), false) ++ [((sg W.1.1 s).1.drop k, false)])).1.1 W.1.1.length = ((sg W.1.1 s).1.drop k, false) := by
            show sg (W.1.1.set s _ ++ [_]) W.1.1.length = _
            have hl9 : (W.1.1.set s ((sg W.1.1 s).1.take (k + 1), false)).length = W.1.1.length := List.length_set
            rw [← hl9]
            exact sg_at
          have eL1 : ((sg W.1.1 s).1.take (k + 1)).length = k + 1 := by rw [List.length_take]; omega
          have eL2 : ((sg W.1.1 s).1.drop k).length = (sg W.1.1 s).1.length - k := List.length_drop
          have hs5 : s < (setD W (W.1.1.set s ((sg W.1.1 s).1.take (k + 1), false) ++ [((sg W.1.1 s).1.drop k, false)])).1.1.length := by omega
          have hs6 : W.1.1.length < (setD W (W.1.1.set s ((sg W.1.1 s).1.take (k + 1), false) ++ [((sg W.1.1 s).1.drop k, false)])).1.1.length := by omega
          have loop : ∀ (m i : Nat), i + m = (sg W.1.1 s).1.length → G Law_changed d 2 64 2 64 825 [some (.ref 0), some (.int (I 4)), some (.int x), some (.int (I (s : Int))), some (.ref a), some (.ref b), some (.int (I ((sg W.1.1 s).1.length : Int))), some (.int (I 0)), some (.int (I (W.1.1.length : Int))), some (.int (I (k : Int))), some (.int (I 1)), some (.int (I ((W.1.1.length : Int) + 1))), some (.int (I (i : Int))), none, none, none, none, none] [] h5 Q := by
            intro m
            induction m with
            | zero =>
              intro i hi
              refine B_Law_changed_825 ?_
              simp only [wp_cons, wp_nil, List.getElem?_cons_zero, List.getElem?_cons_succ, List.set_cons_zero, List.set_cons_succ, s_iload, ldI_s, s_if_icmp_ge, p2_s, true_and, and_true, Nat.le_refl, true_implies, forall_const, not_false_eq_true, false_implies, not_true_eq_false, reduceCtorEq, tl_s, tl_n, rf_s, List.cons_append, List.nil_append, true_or, or_true, hc]
              refine b_le (by omega) (by omega) (fun cc => ?_) (fun cc => absurd cc (by omega))
              refine B_Law_changed_888 ?_
              simp only [wp_cons, wp_nil, List.getElem?_cons_zero, List.getElem?_cons_succ, List.set_cons_zero, List.set_cons_succ, s_goto, true_and, and_true, Nat.le_refl, true_implies, forall_const, not_false_eq_true, false_implies, not_true_eq_false, reduceCtorEq, tl_s, tl_n, rf_s, List.cons_append, List.nil_append, true_or, or_true, hc]
              refine B_Law_changed_1031 ?_
              simp only [wp_cons, wp_nil, List.getElem?_cons_zero, List.getElem?_cons_succ, List.set_cons_zero, List.set_cons_succ, s_iconst, s_ireturn, p1_s, rI_i, rI_z, rI_c, z_01, z_11, rt_Law_changed, true_and, and_true, Nat.le_refl, true_implies, forall_const, not_false_eq_true, false_implies, not_true_eq_false, reduceCtorEq, tl_s, tl_n, rf_s, List.cons_append, List.nil_append, true_or, or_true, hc]
              exact hQ h5 _ w9 rfl p5 l5
            | succ m ih =>
              intro i hi
              have em : (i : Int) + 1 = ((i + 1 : Nat) : Int) := by omega
              have nx := ih (i + 1) (by omega)
              have pi9 := w3 i (by omega)
              have K854 : G Law_changed d 2 64 2 64 854 [some (.ref 0), some (.int (I 4)), some (.int x), some (.int (I (s : Int))), some (.ref a), some (.ref b), some (.int (I ((sg W.1.1 s).1.length : Int))), some (.int (I 0)), some (.int (I (W.1.1.length : Int))), some (.int (I (k : Int))), some (.int (I 1)), some (.int (I ((W.1.1.length : Int) + 1))), some (.int (I (i : Int))), none, none, none, none, none] [] h5 Q := by
                by_cases c : i < k
                · refine B_Law_changed_854 ?_
                  simp only [wp_cons, wp_nil, List.getElem?_cons_zero, List.getElem?_cons_succ, List.set_cons_zero, List.set_cons_succ, s_iload, ldI_s, s_if_icmp_lt, p2_s, true_and, and_true, Nat.le_refl, true_implies, forall_const, not_false_eq_true, false_implies, not_true_eq_false, reduceCtorEq, tl_s, tl_n, rf_s, List.cons_append, List.nil_append, true_or, or_true, em]
                  refine b_lt (by omega) (by omega) (fun cc => ?_) (fun cc => absurd cc (by omega))
                  refine B_Law_changed_882 ?_
                  simp only [wp_cons, wp_nil, List.getElem?_cons_zero, List.getElem?_cons_succ, List.set_cons_zero, List.set_cons_succ, s_iinc, ldI_s, s1_0, s1_s, kx_i, kx_r, kx_s, kx_n, kx_l, kx_0, I_add, s_goto, true_and, and_true, Nat.le_refl, true_implies, forall_const, not_false_eq_true, false_implies, not_true_eq_false, reduceCtorEq, tl_s, tl_n, rf_s, List.cons_append, List.nil_append, true_or, or_true, em]
                  exact nx
                · have ei : (i : Int) - (k : Int) = ((i - k : Nat) : Int) := by omega
                  refine B_Law_changed_854 ?_
                  simp only [wp_cons, wp_nil, List.getElem?_cons_zero, List.getElem?_cons_succ, List.set_cons_zero, List.set_cons_succ, s_iload, ldI_s, s_if_icmp_lt, p2_s, true_and, and_true, Nat.le_refl, true_implies, forall_const, not_false_eq_true, false_implies, not_true_eq_false, reduceCtorEq, tl_s, tl_n, rf_s, List.cons_append, List.nil_append, true_or, or_true, hc5, ei]
                  refine b_lt (by omega) (by omega) (fun cc => absurd cc (by omega)) (fun cc => ?_)
                  refine B_Law_changed_861 ?_
                  simp only [wp_cons, wp_nil, List.getElem?_cons_zero, List.getElem?_cons_succ, List.set_cons_zero, List.set_cons_succ, s_aload_n0, ldA_r, ldA_n, ldA_s, s_iload, ldI_s, s_isub, p2_s, I_sub, s_invokevirtual, rc_s, ob_s, List.drop_succ_cons, List.drop_zero, List.take_succ_cons, List.take_zero, List.reverse_cons, List.reverse_nil, List.nil_append, List.cons_append, List.length_cons, List.length_nil, d1, Int.reduceToNat, Nat.reduceAdd, Nat.reduceLeDiff, true_and, and_true, Nat.le_refl, true_implies, forall_const, not_false_eq_true, false_implies, not_true_eq_false, reduceCtorEq, tl_s, tl_n, rf_s, true_or, or_true, hc5, ei]
                  refine Pens_point_c (by omega) w9 p5 (by omega) (by omega) ?_
                  rw [sp_point_k hs6 (by rw [eT]; show i - k < (List.drop _ _).length; omega), eT, show pg ((sg W.1.1 s).1.drop k, false).1 (i - k) = pg (sg W.1.1 s).1 i by show pg (List.drop _ _) _ = _; rw [pg_drop, show k + (i - k) = i by omega]]
                  refine B_Law_changed_872 ?_
                  simp only [wp_cons, wp_nil, List.getElem?_cons_zero, List.getElem?_cons_succ, List.set_cons_zero, List.set_cons_succ, s_aload, ldA_r, ldA_n, ldA_s, s_iload, ldI_s, s_iaload, iR_s, ia_s, s_if_icmp_eq, p2_s, true_and, and_true, Nat.le_refl, true_implies, forall_const, not_false_eq_true, false_implies, not_true_eq_false, reduceCtorEq, tl_s, tl_n, rf_s, List.cons_append, List.nil_append, true_or, or_true, a5', ex_ix (i := i) (n := 32) (by omega), tk.k (k := i) (by omega), em]
                  refine B_Law_changed_882 ?_
                  simp only [wp_cons, wp_nil, List.getElem?_cons_zero, List.getElem?_cons_succ, List.set_cons_zero, List.set_cons_succ, s_iinc, ldI_s, s1_0, s1_s, kx_i, kx_r, kx_s, kx_n, kx_l, kx_0, I_add, s_goto, true_and, and_true, Nat.le_refl, true_implies, forall_const, not_false_eq_true, false_implies, not_true_eq_false, reduceCtorEq, tl_s, tl_n, rf_s, List.cons_append, List.nil_append, true_or, or_true, a5', ex_ix (i := i) (n := 32) (by omega), tk.k (k := i) (by omega), em]
                  exact nx
              by_cases c : i ≤ k
              · refine B_Law_changed_825 ?_
                simp only [wp_cons, wp_nil, List.getElem?_cons_zero, List.getElem?_cons_succ, List.set_cons_zero, List.set_cons_succ, s_iload, ldI_s, s_if_icmp_ge, p2_s, true_and, and_true, Nat.le_refl, true_implies, forall_const, not_false_eq_true, false_implies, not_true_eq_false, reduceCtorEq, tl_s, tl_n, rf_s, List.cons_append, List.nil_append, true_or, or_true, hc5]
                refine b_le (by omega) (by omega) (fun cc => absurd cc (by omega)) (fun cc => ?_)
                refine B_Law_changed_832 ?_
                simp only [wp_cons, wp_nil, List.getElem?_cons_zero, List.getElem?_cons_succ, List.set_cons_zero, List.set_cons_succ, s_iload, ldI_s, s_if_icmp_gt, p2_s, true_and, and_true, Nat.le_refl, true_implies, forall_const, not_false_eq_true, false_implies, not_true_eq_false, reduceCtorEq, tl_s, tl_n, rf_s, List.cons_append, List.nil_append, true_or, or_true, hc5]
                refine b_lt (by omega) (by omega) (fun cc => absurd cc (by omega)) (fun cc => ?_)
                refine B_Law_changed_839 ?_
                simp only [wp_cons, wp_nil, List.getElem?_cons_zero, List.getElem?_cons_succ, List.set_cons_zero, List.set_cons_succ, s_aload_n0, ldA_r, ldA_n, ldA_s, s_iload_n3, ldI_s, s_iload, s_invokevirtual, rc_s, ob_s, List.drop_succ_cons, List.drop_zero, List.take_succ_cons, List.take_zero, List.reverse_cons, List.reverse_nil, List.nil_append, List.cons_append, List.length_cons, List.length_nil, d1, Int.reduceToNat, Nat.reduceAdd, Nat.reduceLeDiff, true_and, and_true, Nat.le_refl, true_implies, forall_const, not_false_eq_true, false_implies, not_true_eq_false, reduceCtorEq, tl_s, tl_n, rf_s, true_or, or_true, hc5]
                refine Pens_point_c (by omega) w9 p5 (by omega) (by omega) ?_
                rw [sp_point_k hs5 (by rw [eS]; show i < (List.take _ _).length; omega), eS, show pg ((sg W.1.1 s).1.take (k + 1), false).1 i = pg (sg W.1.1 s).1 i from pg_take _ (by omega)]
                refine B_Law_changed_846 ?_
                simp only [wp_cons, wp_nil, List.getElem?_cons_zero, List.getElem?_cons_succ, List.set_cons_zero, List.set_cons_succ, s_aload, ldA_r, ldA_n, ldA_s, s_iload, ldI_s, s_iaload, iR_s, ia_s, s_if_icmp_ne, p2_s, true_and, and_true, Nat.le_refl, true_implies, forall_const, not_false_eq_true, false_implies, not_true_eq_false, reduceCtorEq, tl_s, tl_n, rf_s, List.cons_append, List.nil_append, true_or, or_true, a5', ex_ix (i := i) (n := 32) (by omega), tk.k (k := i) (by omega)]
                exact K854
              · refine B_Law_changed_825 ?_
                simp only [wp_cons, wp_nil, List.getElem?_cons_zero, List.getElem?_cons_succ, List.set_cons_zero, List.set_cons_succ, s_iload, ldI_s, s_if_icmp_ge, p2_s, true_and, and_true, Nat.le_refl, true_implies, forall_const, not_false_eq_true, false_implies, not_true_eq_false, reduceCtorEq, tl_s, tl_n, rf_s, List.cons_append, List.nil_append, true_or, or_true, hc]
                refine b_le (by omega) (by omega) (fun cc => absurd cc (by omega)) (fun cc => ?_)
                refine B_Law_changed_832 ?_
                simp only [wp_cons, wp_nil, List.getElem?_cons_zero, List.getElem?_cons_succ, List.set_cons_zero, List.set_cons_succ, s_iload, ldI_s, s_if_icmp_gt, p2_s, true_and, and_true, Nat.le_refl, true_implies, forall_const, not_false_eq_true, false_implies, not_true_eq_false, reduceCtorEq, tl_s, tl_n, rf_s, List.cons_append, List.nil_append, true_or, or_true, hc]
                refine b_lt (by omega) (by omega) (fun cc => ?_) (fun cc => absurd cc (by omega))
                exact K854
          have en2 : ((sg W.1.1 s).1.length : Int) - (k : Int) = (((sg W.1.1 s).1.length - k : Nat) : Int) := by omega
          have en3 : (k : Int) + 1 = ((k + 1 : Nat) : Int) := by omega
          refine B_Law_changed_702 ?_
          simp only [wp_cons, wp_nil, List.getElem?_cons_zero, List.getElem?_cons_succ, List.set_cons_zero, List.set_cons_succ, s_iload, ldI_s, s_if_icmp_eq, p2_s, true_and, and_true, Nat.le_refl, true_implies, forall_const, not_false_eq_true, false_implies, not_true_eq_false, reduceCtorEq, tl_s, tl_n, rf_s, List.cons_append, List.nil_append, true_or, or_true, hc5]
          refine B_Law_changed_709 ?_
          simp only [wp_cons, wp_nil, List.getElem?_cons_zero, List.getElem?_cons_succ, List.set_cons_zero, List.set_cons_succ, s_iload, ldI_s, s_ifCond_eq, p1_s, true_and, and_true, Nat.le_refl, true_implies, forall_const, not_false_eq_true, false_implies, not_true_eq_false, reduceCtorEq, tl_s, tl_n, rf_s, List.cons_append, List.nil_append, true_or, or_true, hc5]
          refine b_eq (by omega) (by omega) (fun cc => absurd cc (by omega)) (fun cc => ?_)
          refine B_Law_changed_714 ?_
          simp only [wp_cons, wp_nil, List.getElem?_cons_zero, List.getElem?_cons_succ, List.set_cons_zero, List.set_cons_succ, s_iload, ldI_s, s_ifCond_eq, p1_s, true_and, and_true, Nat.le_refl, true_implies, forall_const, not_false_eq_true, false_implies, not_true_eq_false, reduceCtorEq, tl_s, tl_n, rf_s, List.cons_append, List.nil_append, true_or, or_true, hc5]
          refine B_Law_changed_782 ?_
          simp only [wp_cons, wp_nil, List.getElem?_cons_zero, List.getElem?_cons_succ, List.set_cons_zero, List.set_cons_succ, s_iload, ldI_s, s_ifCond_eq, p1_s, true_and, and_true, Nat.le_refl, true_implies, forall_const, not_false_eq_true, false_implies, not_true_eq_false, reduceCtorEq, tl_s, tl_n, rf_s, List.cons_append, List.nil_append, true_or, or_true, hc5]
          refine b_eq (by omega) (by omega) (fun cc => absurd cc (by omega)) (fun cc => ?_)
          refine B_Law_changed_787 ?_
          simp only [wp_cons, wp_nil, List.getElem?_cons_zero, List.getElem?_cons_succ, List.set_cons_zero, List.set_cons_succ, s_iload, ldI_s, s_ifCond_ne, p1_s, true_and, and_true, Nat.le_refl, true_implies, forall_const, not_false_eq_true, false_implies, not_true_eq_false, reduceCtorEq, tl_s, tl_n, rf_s, List.cons_append, List.nil_append, true_or, or_true, hc5]
          refine B_Law_changed_792 ?_
          simp only [wp_cons, wp_nil, List.getElem?_cons_zero, List.getElem?_cons_succ, List.set_cons_zero, List.set_cons_succ, s_aload_n0, ldA_r, ldA_n, ldA_s, s_iload_n3, ldI_s, s_iconst, s_invokevirtual, rc_s, ob_s, List.drop_succ_cons, List.drop_zero, List.take_succ_cons, List.take_zero, List.reverse_cons, List.reverse_nil, List.nil_append, List.cons_append, List.length_cons, List.length_nil, d1, Int.reduceToNat, Nat.reduceAdd, Nat.reduceLeDiff, true_and, and_true, Nat.le_refl, true_implies, forall_const, not_false_eq_true, false_implies, not_true_eq_false, reduceCtorEq, tl_s, tl_n, rf_s, true_or, or_true, hc5]
          refine Pens_of_c (by omega) w9 p5 (by omega) (by omega) ?_
          rw [sp_of_0 hs5, eS, show (((sg W.1.1 s).1.take (k + 1), false).1.length : Int) = ((k + 1 : Nat) : Int) by show ((List.take _ _).length : Int) = _; rw [eL1]]
          refine B_Law_changed_798 ?_
          simp only [wp_cons, wp_nil, List.getElem?_cons_zero, List.getElem?_cons_succ, List.set_cons_zero, List.set_cons_succ, s_iload, ldI_s, s_iconst, s_iadd, p2_s, I_add, s_if_icmp_ne, true_and, and_true, Nat.le_refl, true_implies, forall_const, not_false_eq_true, false_implies, not_true_eq_false, reduceCtorEq, tl_s, tl_n, rf_s, List.cons_append, List.nil_append, true_or, or_true, hc5, en3]
          refine B_Law_changed_805 ?_
          simp only [wp_cons, wp_nil, List.getElem?_cons_zero, List.getElem?_cons_succ, List.set_cons_zero, List.set_cons_succ, s_aload_n0, ldA_r, ldA_n, ldA_s, s_iload, ldI_s, s_iconst, s_invokevirtual, rc_s, ob_s, List.drop_succ_cons, List.drop_zero, List.take_succ_cons, List.take_zero, List.reverse_cons, List.reverse_nil, List.nil_append, List.cons_append, List.length_cons, List.length_nil, d1, Int.reduceToNat, Nat.reduceAdd, Nat.reduceLeDiff, true_and, and_true, Nat.le_refl, true_implies, forall_const, not_false_eq_true, false_implies, not_true_eq_false, reduceCtorEq, tl_s, tl_n, rf_s, true_or, or_true, hc5, en3]
          refine Pens_of_c (by omega) w9 p5 (by omega) (by omega) ?_
          rw [sp_of_0 hs6, eT, show (((sg W.1.1 s).1.drop k, false).1.length : Int) = (((sg W.1.1 s).1.length - k : Nat) : Int) by show ((List.drop _ _).length : Int) = _; rw [eL2]]
          refine B_Law_changed_812 ?_
          simp only [wp_cons, wp_nil, List.getElem?_cons_zero, List.getElem?_cons_succ, List.set_cons_zero, List.set_cons_succ, s_iload, ldI_s, s_isub, p2_s, I_sub, s_if_icmp_eq, true_and, and_true, Nat.le_refl, true_implies, forall_const, not_false_eq_true, false_implies, not_true_eq_false, reduceCtorEq, tl_s, tl_n, rf_s, List.cons_append, List.nil_append, true_or, or_true, en2]
          refine B_Law_changed_822 ?_
          simp only [wp_cons, wp_nil, List.getElem?_cons_zero, List.getElem?_cons_succ, List.set_cons_zero, List.set_cons_succ, s_iconst, s_istore, p1_s, s1_0, s1_s, kx_i, kx_r, kx_s, kx_n, kx_l, kx_0, true_and, and_true, Nat.le_refl, true_implies, forall_const, not_false_eq_true, false_implies, not_true_eq_false, reduceCtorEq, tl_s, tl_n, rf_s, List.cons_append, List.nil_append, true_or, or_true, en2]
          exact loop (sg W.1.1 s).1.length 0 (by omega)
theorem Changed_E {d : Nat} (hd : 10 ≤ d) {W : Wd} {a b s : Nat} {x : Int32} {f g : Nat → Int} {h : g_H} {Q : g_Po} (w : wfW W) (hs : s < W.1.1.length) (hp : pens h 0 W) (ha : 208 ≤ a) (hb : 208 ≤ b) (hab : a ≠ b) (har : ary h a 32 f) (hbr : ary h b 32 g) (tk : tkn (sg W.1.1 s) f) (hQ : ∀ h' W', wfW W' → W'.1.2 = W.1.2 → pens h' 0 W' → b < h'.length → Q (some (.int (I 1))) h') {kd : Int} (hkd : kd = 5 ∨ kd = 6) : G Law_changed d 2 64 2 64 891 [some (.ref 0), some (.int (I kd)), some (.int x), some (.int (I (s : Int))), some (.ref a), some (.ref b), some (.int (I ((sg W.1.1 s).1.length : Int))), some (.int (I (sz (sg W.1.1 s).2))), some (.int (I (W.1.1.length : Int))), none, none, none, none, none, none, none, none, none] [] h Q := by
  have d1 : 1 ≤ d := by omega
  have wl : W.1.1.length ≤ 10 := w.1.1.1
  have wS := w.1.1.2 s hs
  have w1 := wS.1
  have w2 := wS.2.1
  have w3 := wS.2.2.1
  obtain ⟨fs, hc⟩ := hp.at6
  have har' : h[a]? = some (.inl (0, 32, fun i => I (f i))) := har
  have en1 : ((sg W.1.1 s).1.length : Int) - 1 = (((sg W.1.1 s).1.length - 1 : Nat) : Int) := by omega
  have es1 : (s : Int) + 1 = ((s + 1 : Nat) : Int) := by omega
  have el1 : (W.1.1.length : Int) - 1 = ((W.1.1.length - 1 : Nat) : Int) := by omega
  have ele : (W.1.1.eraseIdx s).length = W.1.1.length - 1 := List.length_eraseIdx_of_lt hs
  have K : ∀ v : Int, ((v = -1 ∧ W.1.1.length ≤ s + 1) ∨ (s + 1 < W.1.1.length ∧ v = pg (sg W.1.1 (s + 1)).1 1 ∧ 1 < (sg W.1.1 (s + 1)).1.length ∧ pt v)) → G Law_changed d 2 64 2 64 911 [some (.ref 0), some (.int (I kd)), some (.int x), some (.int (I (s : Int))), some (.ref a), some (.ref b), some (.int (I ((sg W.1.1 s).1.length : Int))), some (.int (I (sz (sg W.1.1 s).2))), some (.int (I (W.1.1.length : Int))), none, none, none, none, none, none, none, none, none] [.int (I v)] h Q := by
    intro v hv
    have vb : -1 ≤ v ∧ v ≤ 999999 := by
      rcases hv with ⟨h1, h2⟩ | ⟨h1, h2, h3, h4⟩ <;> omega
    rcases hkd with hkd | hkd
    · subst hkd
      refine B_Law_changed_911 ?_
      simp only [wp_cons, wp_nil, List.getElem?_cons_zero, List.getElem?_cons_succ, List.set_cons_zero, List.set_cons_succ, s_istore, p1_s, s1_0, s1_s, kx_i, kx_r, kx_s, kx_n, kx_l, kx_0, s_iload_n1, ldI_s, s_iconst, s_if_icmp_ne, p2_s, true_and, and_true, Nat.le_refl, true_implies, forall_const, not_false_eq_true, false_implies, not_true_eq_false, reduceCtorEq, tl_s, tl_n, rf_s, List.cons_append, List.nil_append, true_or, or_true, hc]
      refine B_Law_changed_918 ?_
      simp only [wp_cons, wp_nil, List.getElem?_cons_zero, List.getElem?_cons_succ, List.set_cons_zero, List.set_cons_succ, s_aload_n0, ldA_r, ldA_n, ldA_s, s_iload_n3, ldI_s, s_invokevirtual, rc_s, ob_s, List.drop_succ_cons, List.drop_zero, List.take_succ_cons, List.take_zero, List.reverse_cons, List.reverse_nil, List.nil_append, List.cons_append, List.length_cons, List.length_nil, d1, Int.reduceToNat, Nat.reduceAdd, Nat.reduceLeDiff, true_and, and_true, Nat.le_refl, true_implies, forall_const, not_false_eq_true, false_implies, not_true_eq_false, reduceCtorEq, tl_s, tl_n, rf_s, true_or, or_true, hc]
      refine Pens_top_c (by omega) w hp (by omega) (fun h5 c5 p5 => ?_)
      have w5 := kp_top w (s : Int)
      rw [sp_top_k hs] at p5 w5 ⊢
      have a5 := har.un c5.un ha (show a ≠ 0 by omega)
      have b5 := hbr.un c5.un hb (show b ≠ 0 by omega)
      have a5' : h5[a]? = some (.inl (0, 32, fun i => I (f i))) := a5
      obtain ⟨fs5, hc5⟩ := p5.at6
      have hlen5 : (setD W (W.1.1.eraseIdx s ++ [sg W.1.1 s])).1.1.length = W.1.1.length := by
        show (W.1.1.eraseIdx s ++ [_]).length = _
        rw [List.length_append, ele]
        show W.1.1.length - 1 + 1 = _
        omega
      have hsl : W.1.1.length - 1 < (setD W (W.1.1.eraseIdx s ++ [sg W.1.1 s])).1.1.length := by omega
      have eT : sg (setD W (W.1.1.eraseIdx s ++ [sg W.1.1 s])).1.1 (W.1.1.length - 1) = sg W.1.1 s := by
        show sg (W.1.1.eraseIdx s ++ [_]) _ = _
        rw [← ele]
        exact sg_at
      have K958 : ∀ z10 : Int32, G Law_changed d 2 64 2 64 958 [some (.ref 0), some (.int (I 5)), some (.int x), some (.int (I (s : Int))), some (.ref a), some (.ref b), some (.int (I ((sg W.1.1 s).1.length : Int))), some (.int (I (sz (sg W.1.1 s).2))), some (.int (I (W.1.1.length : Int))), some (.int (I v)), some (.int z10), none, none, none, none, none, none, none] [] h5 Q := by
        intro z10
        refine B_Law_changed_958 ?_
        simp only [wp_cons, wp_nil, List.getElem?_cons_zero, List.getElem?_cons_succ, List.set_cons_zero, List.set_cons_succ, s_iload_n1, ldI_s, s_iconst, s_if_icmp_ne, p2_s, true_and, and_true, Nat.le_refl, true_implies, forall_const, not_false_eq_true, false_implies, not_true_eq_false, reduceCtorEq, tl_s, tl_n, rf_s, List.cons_append, List.nil_append, true_or, or_true, hc5, el1]
        refine B_Law_changed_963 ?_
        simp only [wp_cons, wp_nil, List.getElem?_cons_zero, List.getElem?_cons_succ, List.set_cons_zero, List.set_cons_succ, s_aload_n0, ldA_r, ldA_n, ldA_s, s_iload, ldI_s, s_iconst, s_isub, p2_s, I_sub, s_aload, s_invokestatic, rc_s, ob_s, List.drop_succ_cons, List.drop_zero, List.take_succ_cons, List.take_zero, List.reverse_cons, List.reverse_nil, List.nil_append, List.cons_append, List.length_cons, List.length_nil, Nat.reduceEqDiff, eq_self, reduceIte, p1_s, l1_s, d1, Int.reduceToNat, Nat.reduceAdd, Nat.reduceLeDiff, true_and, and_true, Nat.le_refl, true_implies, forall_const, not_false_eq_true, false_implies, not_true_eq_false, reduceCtorEq, tl_s, tl_n, rf_s, true_or, or_true, hc5, el1]
        refine Law_take_c (by omega) w5 p5 hsl hb b5 (fun h6 g6 c6 p6 b6 uk => ?_)
        rw [eT] at uk ⊢
        have a6 := a5.un c6 ha hab
        have a6' : h6[a]? = some (.inl (0, 32, fun i => I (f i))) := a6
        have b6' : h6[b]? = some (.inl (0, 32, fun i => I (g6 i))) := b6
        have l6 := (List.getElem?_eq_some_iff.mp b6).1
        obtain ⟨fs6, hc6⟩ := p6.at6
        refine B_Law_changed_973 ?_
        simp only [wp_cons, wp_nil, List.getElem?_cons_zero, List.getElem?_cons_succ, List.set_cons_zero, List.set_cons_succ, s_iload, ldI_s, s_if_icmp_ne, p2_s, true_and, and_true, Nat.le_refl, true_implies, forall_const, not_false_eq_true, false_implies, not_true_eq_false, reduceCtorEq, tl_s, tl_n, rf_s, List.cons_append, List.nil_append, true_or, or_true, hc6, a6', b6', en1, el1, ex_ie (x := 0) (i := 0) (n := 32) rfl (by omega), ex_ix (i := (sg W.1.1 s).1.length - 1) (n := 32) (by omega), tk.k (k := 0) (by omega), uk.k (k := 0) (by omega), tk.k (k := (sg W.1.1 s).1.length - 1) (by omega), uk.k (k := (sg W.1.1 s).1.length - 1) (by omega)]
        refine B_Law_changed_978 ?_
        simp only [wp_cons, wp_nil, List.getElem?_cons_zero, List.getElem?_cons_succ, List.set_cons_zero, List.set_cons_succ, s_aload, ldA_r, ldA_n, ldA_s, s_iconst, s_iaload, iR_s, ia_s, s_if_icmp_ne, p2_s, true_and, and_true, Nat.le_refl, true_implies, forall_const, not_false_eq_true, false_implies, not_true_eq_false, reduceCtorEq, tl_s, tl_n, rf_s, List.cons_append, List.nil_append, true_or, or_true, hc6, a6', b6', en1, el1, ex_ie (x := 0) (i := 0) (n := 32) rfl (by omega), ex_ix (i := (sg W.1.1 s).1.length - 1) (n := 32) (by omega), tk.k (k := 0) (by omega), uk.k (k := 0) (by omega), tk.k (k := (sg W.1.1 s).1.length - 1) (by omega), uk.k (k := (sg W.1.1 s).1.length - 1) (by omega)]
        refine B_Law_changed_989 ?_
        simp only [wp_cons, wp_nil, List.getElem?_cons_zero, List.getElem?_cons_succ, List.set_cons_zero, List.set_cons_succ, s_aload, ldA_r, ldA_n, ldA_s, s_iload, ldI_s, s_iconst, s_isub, p2_s, I_sub, s_iaload, iR_s, ia_s, s_if_icmp_ne, true_and, and_true, Nat.le_refl, true_implies, forall_const, not_false_eq_true, false_implies, not_true_eq_false, reduceCtorEq, tl_s, tl_n, rf_s, List.cons_append, List.nil_append, true_or, or_true, hc6, a6', b6', en1, el1, ex_ie (x := 0) (i := 0) (n := 32) rfl (by omega), ex_ix (i := (sg W.1.1 s).1.length - 1) (n := 32) (by omega), tk.k (k := 0) (by omega), uk.k (k := 0) (by omega), tk.k (k := (sg W.1.1 s).1.length - 1) (by omega), uk.k (k := (sg W.1.1 s).1.length - 1) (by omega)]
        refine B_Law_changed_1006 ?_
        simp only [wp_cons, wp_nil, List.getElem?_cons_zero, List.getElem?_cons_succ, List.set_cons_zero, List.set_cons_succ, s_aload_n0, ldA_r, ldA_n, ldA_s, s_iload, ldI_s, s_iconst, s_isub, p2_s, I_sub, s_invokevirtual, rc_s, ob_s, List.drop_succ_cons, List.drop_zero, List.take_succ_cons, List.take_zero, List.reverse_cons, List.reverse_nil, List.nil_append, List.cons_append, List.length_cons, List.length_nil, d1, Int.reduceToNat, Nat.reduceAdd, Nat.reduceLeDiff, true_and, and_true, Nat.le_refl, true_implies, forall_const, not_false_eq_true, false_implies, not_true_eq_false, reduceCtorEq, tl_s, tl_n, rf_s, true_or, or_true, hc6, a6', b6', en1, el1, ex_ie (x := 0) (i := 0) (n := 32) rfl (by omega), ex_ix (i := (sg W.1.1 s).1.length - 1) (n := 32) (by omega), tk.k (k := 0) (by omega), uk.k (k := 0) (by omega), tk.k (k := (sg W.1.1 s).1.length - 1) (by omega), uk.k (k := (sg W.1.1 s).1.length - 1) (by omega)]
        refine Pens_of_c (by omega) w5 p6 (by omega) (by omega) ?_
        rw [(sp_of_lit hsl).1, eT]
        by_cases z : (sg W.1.1 s).2 = true
        · have ez : sz (sg W.1.1 s).2 = 1 := if_pos z
          rw [ez]
          refine B_Law_changed_1015 ?_
          simp only [wp_cons, wp_nil, List.getElem?_cons_zero, List.getElem?_cons_succ, List.set_cons_zero, List.set_cons_succ, s_iconst, s_if_icmp_ne, p2_s, true_and, and_true, Nat.le_refl, true_implies, forall_const, not_false_eq_true, false_implies, not_true_eq_false, reduceCtorEq, tl_s, tl_n, rf_s, List.cons_append, List.nil_append, true_or, or_true, hc6, a6', b6', en1, el1, ex_ie (x := 0) (i := 0) (n := 32) rfl (by omega), ex_ix (i := (sg W.1.1 s).1.length - 1) (n := 32) (by omega), tk.k (k := 0) (by omega), uk.k (k := 0) (by omega), tk.k (k := (sg W.1.1 s).1.length - 1) (by omega), uk.k (k := (sg W.1.1 s).1.length - 1) (by omega)]
          refine B_Law_changed_1019 ?_
          simp only [wp_cons, wp_nil, List.getElem?_cons_zero, List.getElem?_cons_succ, List.set_cons_zero, List.set_cons_succ, s_iconst, s_goto, true_and, and_true, Nat.le_refl, true_implies, forall_const, not_false_eq_true, false_implies, not_true_eq_false, reduceCtorEq, tl_s, tl_n, rf_s, List.cons_append, List.nil_append, true_or, or_true, hc6, a6', b6', en1, el1, ex_ie (x := 0) (i := 0) (n := 32) rfl (by omega), ex_ix (i := (sg W.1.1 s).1.length - 1) (n := 32) (by omega), tk.k (k := 0) (by omega), uk.k (k := 0) (by omega), tk.k (k := (sg W.1.1 s).1.length - 1) (by omega), uk.k (k := (sg W.1.1 s).1.length - 1) (by omega)]
          refine B_Law_changed_1024 ?_
          simp only [wp_cons, wp_nil, List.getElem?_cons_zero, List.getElem?_cons_succ, List.set_cons_zero, List.set_cons_succ, s_iload, ldI_s, s_if_icmp_eq, p2_s, true_and, and_true, Nat.le_refl, true_implies, forall_const, not_false_eq_true, false_implies, not_true_eq_false, reduceCtorEq, tl_s, tl_n, rf_s, List.cons_append, List.nil_append, true_or, or_true, hc6, a6', b6', en1, el1, ex_ie (x := 0) (i := 0) (n := 32) rfl (by omega), ex_ix (i := (sg W.1.1 s).1.length - 1) (n := 32) (by omega), tk.k (k := 0) (by omega), uk.k (k := 0) (by omega), tk.k (k := (sg W.1.1 s).1.length - 1) (by omega), uk.k (k := (sg W.1.1 s).1.length - 1) (by omega)]
          refine B_Law_changed_1031 ?_
          simp only [wp_cons, wp_nil, List.getElem?_cons_zero, List.getElem?_cons_succ, List.set_cons_zero, List.set_cons_succ, s_iconst, s_ireturn, p1_s, rI_i, rI_z, rI_c, z_01, z_11, rt_Law_changed, true_and, and_true, Nat.le_refl, true_implies, forall_const, not_false_eq_true, false_implies, not_true_eq_false, reduceCtorEq, tl_s, tl_n, rf_s, List.cons_append, List.nil_append, true_or, or_true, hc6, a6', b6', en1, el1, ex_ie (x := 0) (i := 0) (n := 32) rfl (by omega), ex_ix (i := (sg W.1.1 s).1.length - 1) (n := 32) (by omega), tk.k (k := 0) (by omega), uk.k (k := 0) (by omega), tk.k (k := (sg W.1.1 s).1.length - 1) (by omega), uk.k (k := (sg W.1.1 s).1.length - 1) (by omega)]
          exact hQ h6 _ w5 rfl p6 l6
        · have ez : sz (sg W.1.1 s).2 = 0 := if_neg z
          rw [ez]
          refine B_Law_changed_1015 ?_
          simp only [wp_cons, wp_nil, List.getElem?_cons_zero, List.getElem?_cons_succ, List.set_cons_zero, List.set_cons_succ, s_iconst, s_if_icmp_ne, p2_s, true_and, and_true, Nat.le_refl, true_implies, forall_const, not_false_eq_true, false_implies, not_true_eq_false, reduceCtorEq, tl_s, tl_n, rf_s, List.cons_append, List.nil_append, true_or, or_true, hc6, a6', b6', en1, el1, ex_ie (x := 0) (i := 0) (n := 32) rfl (by omega), ex_ix (i := (sg W.1.1 s).1.length - 1) (n := 32) (by omega), tk.k (k := 0) (by omega), uk.k (k := 0) (by omega), tk.k (k := (sg W.1.1 s).1.length - 1) (by omega), uk.k (k := (sg W.1.1 s).1.length - 1) (by omega)]
          refine b_ne (by omega) (by omega) (fun cc => ?_) (fun cc => absurd cc (by omega))
          refine B_Law_changed_1023 ?_
          simp only [wp_cons, wp_nil, List.getElem?_cons_zero, List.getElem?_cons_succ, List.set_cons_zero, List.set_cons_succ, s_iconst, true_and, and_true, Nat.le_refl, true_implies, forall_const, not_false_eq_true, false_implies, not_true_eq_false, reduceCtorEq, tl_s, tl_n, rf_s, List.cons_append, List.nil_append, true_or, or_true, hc6, a6', b6', en1, el1, ex_ie (x := 0) (i := 0) (n := 32) rfl (by omega), ex_ix (i := (sg W.1.1 s).1.length - 1) (n := 32) (by omega), tk.k (k := 0) (by omega), uk.k (k := 0) (by omega), tk.k (k := (sg W.1.1 s).1.length - 1) (by omega), uk.k (k := (sg W.1.1 s).1.length - 1) (by omega)]
          refine B_Law_changed_1024 ?_
          simp only [wp_cons, wp_nil, List.getElem?_cons_zero, List.getElem?_cons_succ, List.set_cons_zero, List.set_cons_succ, s_iload, ldI_s, s_if_icmp_eq, p2_s, true_and, and_true, Nat.le_refl, true_implies, forall_const, not_false_eq_true, false_implies, not_true_eq_false, reduceCtorEq, tl_s, tl_n, rf_s, List.cons_append, List.nil_append, true_or, or_true, hc6, a6', b6', en1, el1, ex_ie (x := 0) (i := 0) (n := 32) rfl (by omega), ex_ix (i := (sg W.1.1 s).1.length - 1) (n := 32) (by omega), tk.k (k := 0) (by omega), uk.k (k := 0) (by omega), tk.k (k := (sg W.1.1 s).1.length - 1) (by omega), uk.k (k := (sg W.1.1 s).1.length - 1) (by omega)]
          refine B_Law_changed_1031 ?_
          simp only [wp_cons, wp_nil, List.getElem?_cons_zero, List.getElem?_cons_succ, List.set_cons_zero, List.set_cons_succ, s_iconst, s_ireturn, p1_s, rI_i, rI_z, rI_c, z_01, z_11, rt_Law_changed, true_and, and_true, Nat.le_refl, true_implies, forall_const, not_false_eq_true, false_implies, not_true_eq_false, reduceCtorEq, tl_s, tl_n, rf_s, List.cons_append, List.nil_append, true_or, or_true, hc6, a6', b6', en1, el1, ex_ie (x := 0) (i := 0) (n := 32) rfl (by omega), ex_ix (i := (sg W.1.1 s).1.length - 1) (n := 32) (by omega), tk.k (k := 0) (by omega), uk.k (k := 0) (by omega), tk.k (k := (sg W.1.1 s).1.length - 1) (by omega), uk.k (k := (sg W.1.1 s).1.length - 1) (by omega)]
          exact hQ h6 _ w5 rfl p6 l6
      rcases hv with ⟨h1, h2⟩ | ⟨h1, h2, h3, h4⟩
      · subst h1
        refine B_Law_changed_923 ?_
        simp only [wp_cons, wp_nil, List.getElem?_cons_zero, List.getElem?_cons_succ, List.set_cons_zero, List.set_cons_succ, s_goto, true_and, and_true, Nat.le_refl, true_implies, forall_const, not_false_eq_true, false_implies, not_true_eq_false, reduceCtorEq, tl_s, tl_n, rf_s, List.cons_append, List.nil_append, true_or, or_true, hc]
        refine B_Law_changed_931 ?_
        simp only [wp_cons, wp_nil, List.getElem?_cons_zero, List.getElem?_cons_succ, List.set_cons_zero, List.set_cons_succ, s_istore, p1_s, s1_0, s1_s, kx_i, kx_r, kx_s, kx_n, kx_l, kx_0, s_iload, ldI_s, s_iconst, s_isub, p2_s, I_sub, s_if_icmp_ne, true_and, and_true, Nat.le_refl, true_implies, forall_const, not_false_eq_true, false_implies, not_true_eq_false, reduceCtorEq, tl_s, tl_n, rf_s, List.cons_append, List.nil_append, true_or, or_true, hc]
        refine B_Law_changed_942 ?_
        simp only [wp_cons, wp_nil, List.getElem?_cons_zero, List.getElem?_cons_succ, List.set_cons_zero, List.set_cons_succ, s_iload, ldI_s, s_ifCond_lt, p1_s, true_and, and_true, Nat.le_refl, true_implies, forall_const, not_false_eq_true, false_implies, not_true_eq_false, reduceCtorEq, tl_s, tl_n, rf_s, List.cons_append, List.nil_append, true_or, or_true, hc]
        refine b_lt (by omega) (by omega) (fun cc => ?_) (fun cc => absurd cc (by omega))
        exact K958 _
      · have eN : sg (setD W (W.1.1.eraseIdx s ++ [sg W.1.1 s])).1.1 s = sg W.1.1 (s + 1) := by
          show sg (W.1.1.eraseIdx s ++ [_]) s = _
          rw [sg_app_l _ _ (by omega), sg_erase, if_neg (by omega)]
        have hs5 : s < (setD W (W.1.1.eraseIdx s ++ [sg W.1.1 s])).1.1.length := by omega
        refine B_Law_changed_923 ?_
        simp only [wp_cons, wp_nil, List.getElem?_cons_zero, List.getElem?_cons_succ, List.set_cons_zero, List.set_cons_succ, s_goto, true_and, and_true, Nat.le_refl, true_implies, forall_const, not_false_eq_true, false_implies, not_true_eq_false, reduceCtorEq, tl_s, tl_n, rf_s, List.cons_append, List.nil_append, true_or, or_true, hc5]
        refine B_Law_changed_931 ?_
        simp only [wp_cons, wp_nil, List.getElem?_cons_zero, List.getElem?_cons_succ, List.set_cons_zero, List.set_cons_succ, s_istore, p1_s, s1_0, s1_s, kx_i, kx_r, kx_s, kx_n, kx_l, kx_0, s_iload, ldI_s, s_iconst, s_isub, p2_s, I_sub, s_if_icmp_ne, true_and, and_true, Nat.le_refl, true_implies, forall_const, not_false_eq_true, false_implies, not_true_eq_false, reduceCtorEq, tl_s, tl_n, rf_s, List.cons_append, List.nil_append, true_or, or_true, hc5]
        refine B_Law_changed_942 ?_
        simp only [wp_cons, wp_nil, List.getElem?_cons_zero, List.getElem?_cons_succ, List.set_cons_zero, List.set_cons_succ, s_iload, ldI_s, s_ifCond_lt, p1_s, true_and, and_true, Nat.le_refl, true_implies, forall_const, not_false_eq_true, false_implies, not_true_eq_false, reduceCtorEq, tl_s, tl_n, rf_s, List.cons_append, List.nil_append, true_or, or_true, hc5]
        refine b_lt (by omega) (by omega) (fun cc => absurd cc (by omega)) (fun cc => ?_)
        refine B_Law_changed_947 ?_
        simp only [wp_cons, wp_nil, List.getElem?_cons_zero, List.getElem?_cons_succ, List.set_cons_zero, List.set_cons_succ, s_aload_n0, ldA_r, ldA_n, ldA_s, s_iload_n3, ldI_s, s_iconst, s_invokevirtual, rc_s, ob_s, List.drop_succ_cons, List.drop_zero, List.take_succ_cons, List.take_zero, List.reverse_cons, List.reverse_nil, List.nil_append, List.cons_append, List.length_cons, List.length_nil, d1, Int.reduceToNat, Nat.reduceAdd, Nat.reduceLeDiff, true_and, and_true, Nat.le_refl, true_implies, forall_const, not_false_eq_true, false_implies, not_true_eq_false, reduceCtorEq, tl_s, tl_n, rf_s, true_or, or_true, hc5]
        refine Pens_point_c (by omega) w5 p5 (by omega) (by omega) ?_
        rw [sp_point_1 hs5 (by rw [eN]; exact h3), eN, ← h2]
        refine B_Law_changed_953 ?_
        simp only [wp_cons, wp_nil, List.getElem?_cons_zero, List.getElem?_cons_succ, List.set_cons_zero, List.set_cons_succ, s_iload, ldI_s, s_if_icmp_ne, p2_s, true_and, and_true, Nat.le_refl, true_implies, forall_const, not_false_eq_true, false_implies, not_true_eq_false, reduceCtorEq, tl_s, tl_n, rf_s, List.cons_append, List.nil_append, true_or, or_true, hc5]
        exact K958 _
    · subst hkd
      refine B_Law_changed_911 ?_
      simp only [wp_cons, wp_nil, List.getElem?_cons_zero, List.getElem?_cons_succ, List.set_cons_zero, List.set_cons_succ, s_istore, p1_s, s1_0, s1_s, kx_i, kx_r, kx_s, kx_n, kx_l, kx_0, s_iload_n1, ldI_s, s_iconst, s_if_icmp_ne, p2_s, true_and, and_true, Nat.le_refl, true_implies, forall_const, not_false_eq_true, false_implies, not_true_eq_false, reduceCtorEq, tl_s, tl_n, rf_s, List.cons_append, List.nil_append, true_or, or_true, hc]
      refine b_ne (by omega) (by omega) (fun cc => ?_) (fun cc => absurd cc (by omega))
      refine B_Law_changed_926 ?_
      simp only [wp_cons, wp_nil, List.getElem?_cons_zero, List.getElem?_cons_succ, List.set_cons_zero, List.set_cons_succ, s_aload_n0, ldA_r, ldA_n, ldA_s, s_iload_n3, ldI_s, s_invokevirtual, rc_s, ob_s, List.drop_succ_cons, List.drop_zero, List.take_succ_cons, List.take_zero, List.reverse_cons, List.reverse_nil, List.nil_append, List.cons_append, List.length_cons, List.length_nil, d1, Int.reduceToNat, Nat.reduceAdd, Nat.reduceLeDiff, true_and, and_true, Nat.le_refl, true_implies, forall_const, not_false_eq_true, false_implies, not_true_eq_false, reduceCtorEq, tl_s, tl_n, rf_s, true_or, or_true, hc]
      refine Pens_rem_c (by omega) w hp (by omega) (fun h5 c5 p5 => ?_)
      have w5 := kp_rem w (s : Int)
      rw [sp_rem_k hs] at p5 w5 ⊢
      have b5 := hbr.un c5.un hb (show b ≠ 0 by omega)
      have l5 := (List.getElem?_eq_some_iff.mp b5).1
      obtain ⟨fs5, hc5⟩ := p5.at6
      have hlen5 : (setD W (W.1.1.eraseIdx s)).1.1.length = W.1.1.length - 1 := ele
      rcases hv with ⟨h1, h2⟩ | ⟨h1, h2, h3, h4⟩
      · subst h1
        refine B_Law_changed_931 ?_
        simp only [wp_cons, wp_nil, List.getElem?_cons_zero, List.getElem?_cons_succ, List.set_cons_zero, List.set_cons_succ, s_istore, p1_s, s1_0, s1_s, kx_i, kx_r, kx_s, kx_n, kx_l, kx_0, s_iload, ldI_s, s_iconst, s_isub, p2_s, I_sub, s_if_icmp_ne, true_and, and_true, Nat.le_refl, true_implies, forall_const, not_false_eq_true, false_implies, not_true_eq_false, reduceCtorEq, tl_s, tl_n, rf_s, List.cons_append, List.nil_append, true_or, or_true, hc]
        refine B_Law_changed_942 ?_
        simp only [wp_cons, wp_nil, List.getElem?_cons_zero, List.getElem?_cons_succ, List.set_cons_zero, List.set_cons_succ, s_iload, ldI_s, s_ifCond_lt, p1_s, true_and, and_true, Nat.le_refl, true_implies, forall_const, not_false_eq_true, false_implies, not_true_eq_false, reduceCtorEq, tl_s, tl_n, rf_s, List.cons_append, List.nil_append, true_or, or_true, hc]
        refine b_lt (by omega) (by omega) (fun cc => ?_) (fun cc => absurd cc (by omega))
        refine B_Law_changed_958 ?_
        simp only [wp_cons, wp_nil, List.getElem?_cons_zero, List.getElem?_cons_succ, List.set_cons_zero, List.set_cons_succ, s_iload_n1, ldI_s, s_iconst, s_if_icmp_ne, p2_s, true_and, and_true, Nat.le_refl, true_implies, forall_const, not_false_eq_true, false_implies, not_true_eq_false, reduceCtorEq, tl_s, tl_n, rf_s, List.cons_append, List.nil_append, true_or, or_true, hc]
        refine b_ne (by omega) (by omega) (fun cc => ?_) (fun cc => absurd cc (by omega))
        refine B_Law_changed_1031 ?_
        simp only [wp_cons, wp_nil, List.getElem?_cons_zero, List.getElem?_cons_succ, List.set_cons_zero, List.set_cons_succ, s_iconst, s_ireturn, p1_s, rI_i, rI_z, rI_c, z_01, z_11, rt_Law_changed, true_and, and_true, Nat.le_refl, true_implies, forall_const, not_false_eq_true, false_implies, not_true_eq_false, reduceCtorEq, tl_s, tl_n, rf_s, List.cons_append, List.nil_append, true_or, or_true, hc]
        exact hQ h5 _ w5 rfl p5 l5
      · have eN : sg (setD W (W.1.1.eraseIdx s)).1.1 s = sg W.1.1 (s + 1) := by
          show sg (W.1.1.eraseIdx s) s = _
          rw [sg_erase, if_neg (by omega)]
        have hs5 : s < (setD W (W.1.1.eraseIdx s)).1.1.length := by omega
        refine B_Law_changed_931 ?_
        simp only [wp_cons, wp_nil, List.getElem?_cons_zero, List.getElem?_cons_succ, List.set_cons_zero, List.set_cons_succ, s_istore, p1_s, s1_0, s1_s, kx_i, kx_r, kx_s, kx_n, kx_l, kx_0, s_iload, ldI_s, s_iconst, s_isub, p2_s, I_sub, s_if_icmp_ne, true_and, and_true, Nat.le_refl, true_implies, forall_const, not_false_eq_true, false_implies, not_true_eq_false, reduceCtorEq, tl_s, tl_n, rf_s, List.cons_append, List.nil_append, true_or, or_true, hc5]
        refine B_Law_changed_942 ?_
        simp only [wp_cons, wp_nil, List.getElem?_cons_zero, List.getElem?_cons_succ, List.set_cons_zero, List.set_cons_succ, s_iload, ldI_s, s_ifCond_lt, p1_s, true_and, and_true, Nat.le_refl, true_implies, forall_const, not_false_eq_true, false_implies, not_true_eq_false, reduceCtorEq, tl_s, tl_n, rf_s, List.cons_append, List.nil_append, true_or, or_true, hc5]
        refine b_lt (by omega) (by omega) (fun cc => absurd cc (by omega)) (fun cc => ?_)
        refine B_Law_changed_947 ?_
        simp only [wp_cons, wp_nil, List.getElem?_cons_zero, List.getElem?_cons_succ, List.set_cons_zero, List.set_cons_succ, s_aload_n0, ldA_r, ldA_n, ldA_s, s_iload_n3, ldI_s, s_iconst, s_invokevirtual, rc_s, ob_s, List.drop_succ_cons, List.drop_zero, List.take_succ_cons, List.take_zero, List.reverse_cons, List.reverse_nil, List.nil_append, List.cons_append, List.length_cons, List.length_nil, d1, Int.reduceToNat, Nat.reduceAdd, Nat.reduceLeDiff, true_and, and_true, Nat.le_refl, true_implies, forall_const, not_false_eq_true, false_implies, not_true_eq_false, reduceCtorEq, tl_s, tl_n, rf_s, true_or, or_true, hc5]
        refine Pens_point_c (by omega) w5 p5 (by omega) (by omega) ?_
        rw [sp_point_1 hs5 (by rw [eN]; exact h3), eN, ← h2]
        refine B_Law_changed_953 ?_
        simp only [wp_cons, wp_nil, List.getElem?_cons_zero, List.getElem?_cons_succ, List.set_cons_zero, List.set_cons_succ, s_iload, ldI_s, s_if_icmp_ne, p2_s, true_and, and_true, Nat.le_refl, true_implies, forall_const, not_false_eq_true, false_implies, not_true_eq_false, reduceCtorEq, tl_s, tl_n, rf_s, List.cons_append, List.nil_append, true_or, or_true, hc5]
        refine B_Law_changed_958 ?_
        simp only [wp_cons, wp_nil, List.getElem?_cons_zero, List.getElem?_cons_succ, List.set_cons_zero, List.set_cons_succ, s_iload_n1, ldI_s, s_iconst, s_if_icmp_ne, p2_s, true_and, and_true, Nat.le_refl, true_implies, forall_const, not_false_eq_true, false_implies, not_true_eq_false, reduceCtorEq, tl_s, tl_n, rf_s, List.cons_append, List.nil_append, true_or, or_true, hc5]
        refine b_ne (by omega) (by omega) (fun cc => ?_) (fun cc => absurd cc (by omega))
        refine B_Law_changed_1031 ?_
        simp only [wp_cons, wp_nil, List.getElem?_cons_zero, List.getElem?_cons_succ, List.set_cons_zero, List.set_cons_succ, s_iconst, s_ireturn, p1_s, rI_i, rI_z, rI_c, z_01, z_11, rt_Law_changed, true_and, and_true, Nat.le_refl, true_implies, forall_const, not_false_eq_true, false_implies, not_true_eq_false, reduceCtorEq, tl_s, tl_n, rf_s, List.cons_append, List.nil_append, true_or, or_true, hc5]
        exact hQ h5 _ w5 rfl p5 l5
  by_cases c : s + 1 < W.1.1.length
  · have wN := w.1.1.2 (s + 1) c
    have n1 := wN.1
    refine B_Law_changed_891 ?_
    simp only [wp_cons, wp_nil, List.getElem?_cons_zero, List.getElem?_cons_succ, List.set_cons_zero, List.set_cons_succ, s_iload_n3, ldI_s, s_iconst, s_iadd, p2_s, I_add, s_iload, s_if_icmp_ge, true_and, and_true, Nat.le_refl, true_implies, forall_const, not_false_eq_true, false_implies, not_true_eq_false, reduceCtorEq, tl_s, tl_n, rf_s, List.cons_append, List.nil_append, true_or, or_true, hc, es1]
    refine b_le (by omega) (by omega) (fun cc => absurd cc (by omega)) (fun cc => ?_)
    refine B_Law_changed_899 ?_
    simp only [wp_cons, wp_nil, List.getElem?_cons_zero, List.getElem?_cons_succ, List.set_cons_zero, List.set_cons_succ, s_aload_n0, ldA_r, ldA_n, ldA_s, s_iload_n3, ldI_s, s_iconst, s_iadd, p2_s, I_add, s_invokevirtual, rc_s, ob_s, List.drop_succ_cons, List.drop_zero, List.take_succ_cons, List.take_zero, List.reverse_cons, List.reverse_nil, List.nil_append, List.cons_append, List.length_cons, List.length_nil, d1, Int.reduceToNat, Nat.reduceAdd, Nat.reduceLeDiff, true_and, and_true, Nat.le_refl, true_implies, forall_const, not_false_eq_true, false_implies, not_true_eq_false, reduceCtorEq, tl_s, tl_n, rf_s, true_or, or_true, hc, es1]
    refine Pens_point_c (by omega) w hp (by omega) (by omega) ?_
    rw [sp_point_1 c (by omega)]
    refine B_Law_changed_907 ?_
    simp only [wp_cons, wp_nil, List.getElem?_cons_zero, List.getElem?_cons_succ, List.set_cons_zero, List.set_cons_succ, s_goto, true_and, and_true, Nat.le_refl, true_implies, forall_const, not_false_eq_true, false_implies, not_true_eq_false, reduceCtorEq, tl_s, tl_n, rf_s, List.cons_append, List.nil_append, true_or, or_true, hc, es1]
    exact K _ (Or.inr ⟨c, rfl, by omega, wN.2.2.1 1 (by omega)⟩)
  · refine B_Law_changed_891 ?_
    simp only [wp_cons, wp_nil, List.getElem?_cons_zero, List.getElem?_cons_succ, List.set_cons_zero, List.set_cons_succ, s_iload_n3, ldI_s, s_iconst, s_iadd, p2_s, I_add, s_iload, s_if_icmp_ge, true_and, and_true, Nat.le_refl, true_implies, forall_const, not_false_eq_true, false_implies, not_true_eq_false, reduceCtorEq, tl_s, tl_n, rf_s, List.cons_append, List.nil_append, true_or, or_true, es1]
    refine b_le (by omega) (by omega) (fun cc => ?_) (fun cc => absurd cc (by omega))
    refine B_Law_changed_910 ?_
    simp only [wp_cons, wp_nil, List.getElem?_cons_zero, List.getElem?_cons_succ, List.set_cons_zero, List.set_cons_succ, s_iconst, true_and, and_true, Nat.le_refl, true_implies, forall_const, not_false_eq_true, false_implies, not_true_eq_false, reduceCtorEq, tl_s, tl_n, rf_s, List.cons_append, List.nil_append, true_or, or_true, es1]
    exact K _ (Or.inl ⟨rfl, by omega⟩)
theorem Law_changed_c {d : Nat} (hd : 10 ≤ d) {W : Wd} {kd : Int} {x : Int32} {h : g_H} {Q : g_Po} (w : wfW W) (hp : pens h 0 W) (hl : 208 ≤ h.length) (hn : 0 < W.1.1.length) (hk : 0 ≤ kd ∧ kd ≤ 6) (hQ : ∀ h' W', wfW W' → W'.1.2 = W.1.2 → pens h' 0 W' → 208 ≤ h'.length → Q (some (.int (I 1))) h') : Call Law_changed d 2 64 [.ref 0, .int (I kd), .int x] h Q := by
  have d1 : 1 ≤ d := by omega
  have wl : W.1.1.length ≤ 10 := w.1.1.1
  obtain ⟨fs, hc⟩ := hp.at6
  refine Call.intro (by rfl) (Nat.le_of_ble_eq_true rfl) ?_
  refine G.eqL (L := [some (.ref 0), some (.int (I kd)), some (.int x), none, none, none, none, none, none, none, none, none, none, none, none, none, none, none]) rfl ?_
  refine B_Law_changed_0 ?_
  simp only [wp_cons, wp_nil, List.getElem?_cons_zero, List.getElem?_cons_succ, List.set_cons_zero, List.set_cons_succ, s_iload_n2, ldI_s, s_aload_n0, ldA_r, ldA_n, ldA_s, s_invokevirtual, rc_s, ob_s, List.drop_succ_cons, List.drop_zero, List.take_succ_cons, List.take_zero, List.reverse_cons, List.reverse_nil, List.nil_append, List.cons_append, List.length_cons, List.length_nil, d1, Int.reduceToNat, Nat.reduceAdd, Nat.reduceLeDiff, true_and, and_true, Nat.le_refl, true_implies, forall_const, not_false_eq_true, false_implies, not_true_eq_false, reduceCtorEq, tl_s, tl_n, rf_s, true_or, or_true, hc, I_cast 32 32 rfl, len_ap, Nat.reduceLT, Nat.zero_le]
  refine Pens_strokes_c hp ?_
  rw [show (sp_strokes W).1 = (W.1.1.length : Int) from rfl]
  refine B_Law_changed_5 ?_
  simp only [wp_cons, wp_nil, List.getElem?_cons_zero, List.getElem?_cons_succ, List.set_cons_zero, List.set_cons_succ, s_invokestatic, rc_s, ob_s, List.drop_succ_cons, List.drop_zero, List.take_succ_cons, List.take_zero, List.reverse_cons, List.reverse_nil, List.nil_append, List.cons_append, List.length_cons, List.length_nil, Nat.reduceEqDiff, eq_self, reduceIte, p1_s, p2_s, l1_s, d1, Int.reduceToNat, Nat.reduceAdd, Nat.reduceLeDiff, true_and, and_true, Nat.le_refl, true_implies, forall_const, not_false_eq_true, false_implies, not_true_eq_false, reduceCtorEq, tl_s, tl_n, rf_s, true_or, or_true, hc, I_cast 32 32 rfl, len_ap, Nat.reduceLT, Nat.zero_le]
  refine Law_low_c (by omega) (fun s0 h1 h2 => ?_)
  obtain ⟨s, rfl, hs⟩ := nat_of ⟨h1, h2⟩
  have wS := w.1.1.2 s hs
  have w1 := wS.1
  have w2 := wS.2.1
  have p2 := (hp.ap (.inl (0, 32, fun _ => I 0)) hl).ap (.inl (0, 32, fun _ => I 0)) (by rw [len_ap]; omega)
  have a2 : ary (h ++ [.inl (0, 32, fun _ => I 0)] ++ [.inl (0, 32, fun _ => I 0)]) h.length 32 (fun _ => 0) := (ary.new rfl).ap _
  have b2 : ary (h ++ [.inl (0, 32, fun _ => I 0)] ++ [.inl (0, 32, fun _ => I 0)]) (h.length + 1) 32 (fun _ => 0) := ary.new (len_ap _ _).symm
  refine B_Law_changed_8 ?_
  simp only [wp_cons, wp_nil, List.getElem?_cons_zero, List.getElem?_cons_succ, List.set_cons_zero, List.set_cons_succ, s_istore_n3, p1_s, s1_0, s1_s, kx_i, kx_r, kx_s, kx_n, kx_l, kx_0, s_bipush, s_newarray, s_astore, pA_r, pA_n, s_aload_n0, ldA_r, ldA_n, ldA_s, s_iload_n3, ldI_s, s_aload, s_invokestatic, rc_s, ob_s, List.drop_succ_cons, List.drop_zero, List.take_succ_cons, List.take_zero, List.reverse_cons, List.reverse_nil, List.nil_append, List.cons_append, List.length_cons, List.length_nil, Nat.reduceEqDiff, eq_self, reduceIte, p2_s, l1_s, d1, Int.reduceToNat, Nat.reduceAdd, Nat.reduceLeDiff, true_and, and_true, Nat.le_refl, true_implies, forall_const, not_false_eq_true, false_implies, not_true_eq_false, reduceCtorEq, tl_s, tl_n, rf_s, true_or, or_true, hc, I_cast 32 32 rfl, len_ap, Nat.reduceLT, Nat.zero_le]
  refine Law_take_c (by omega) w p2 hs hl a2 (fun h3 f c3 p3 a3 tk => ?_)
  have b3 : ary h3 (h.length + 1) 32 (fun _ => 0) := b2.un c3 (by omega) (by omega)
  obtain ⟨fs3, hc3⟩ := p3.at6
  have hQ3 : ∀ h' W', wfW W' → W'.1.2 = W.1.2 → pens h' 0 W' → h.length + 1 < h'.length → Q (some (.int (I 1))) h' := fun h' W' q1 q2 q3 q4 => hQ h' W' q1 q2 q3 (by omega)
  have hb9 : 208 ≤ h.length + 1 := by omega
  have hab : h.length ≠ h.length + 1 := by omega
  have KA := fun hkd => Changed_A (kd := kd) (x := x) hd w hs p3 hl hb9 hab a3 b3 tk hQ3 hkd
  have KB := Changed_B (x := x) hd w hs p3 hl hb9 hab a3 b3 tk hQ3
  have KC := Changed_C (x := x) hd w hs p3 hl hb9 hab a3 b3 tk hQ3
  have KD := Changed_D (x := x) hd w hs p3 hl hb9 hab a3 b3 tk hQ3
  have KE := fun hkd => Changed_E (kd := kd) (x := x) hd w hs p3 hl hb9 hab a3 b3 tk hQ3 hkd
  refine B_Law_changed_28 ?_
  simp only [wp_cons, wp_nil, List.getElem?_cons_zero, List.getElem?_cons_succ, List.set_cons_zero, List.set_cons_succ, s_istore, p1_s, s1_0, s1_s, kx_i, kx_r, kx_s, kx_n, kx_l, kx_0, s_aload_n0, ldA_r, ldA_n, ldA_s, s_iload_n3, ldI_s, s_iconst, s_invokevirtual, rc_s, ob_s, List.drop_succ_cons, List.drop_zero, List.take_succ_cons, List.take_zero, List.reverse_cons, List.reverse_nil, List.nil_append, List.cons_append, List.length_cons, List.length_nil, d1, Int.reduceToNat, Nat.reduceAdd, Nat.reduceLeDiff, true_and, and_true, Nat.le_refl, true_implies, forall_const, not_false_eq_true, false_implies, not_true_eq_false, reduceCtorEq, tl_s, tl_n, rf_s, true_or, or_true, hc3]
  refine Pens_of_c (by omega) w p3 (by omega) (by omega) ?_
  rw [(sp_of_lit hs).1]
  have K45 : G Law_changed d 2 64 2 64 45 [some (.ref 0), some (.int (I kd)), some (.int x), some (.int (I (s : Int))), some (.ref h.length), some (.ref (h.length + 1)), some (.int (I ((sg W.1.1 s).1.length : Int))), none, none, none, none, none, none, none, none, none, none, none] [.int (I (sz (sg W.1.1 s).2))] h3 Q := by
    refine B_Law_changed_45 ?_
    simp only [wp_cons, wp_nil, List.getElem?_cons_zero, List.getElem?_cons_succ, List.set_cons_zero, List.set_cons_succ, s_istore, p1_s, s1_0, s1_s, kx_i, kx_r, kx_s, kx_n, kx_l, kx_0, s_aload_n0, ldA_r, ldA_n, ldA_s, s_invokevirtual, rc_s, ob_s, List.drop_succ_cons, List.drop_zero, List.take_succ_cons, List.take_zero, List.reverse_cons, List.reverse_nil, List.nil_append, List.cons_append, List.length_cons, List.length_nil, d1, Int.reduceToNat, Nat.reduceAdd, Nat.reduceLeDiff, true_and, and_true, Nat.le_refl, true_implies, forall_const, not_false_eq_true, false_implies, not_true_eq_false, reduceCtorEq, tl_s, tl_n, rf_s, true_or, or_true, hc3]
    refine Pens_strokes_c p3 ?_
    rw [show (sp_strokes W).1 = (W.1.1.length : Int) from rfl]
    by_cases c0 : kd = 0
    · subst c0
      refine B_Law_changed_51 ?_
      simp only [wp_cons, wp_nil, List.getElem?_cons_zero, List.getElem?_cons_succ, List.set_cons_zero, List.set_cons_succ, s_istore, p1_s, s1_0, s1_s, kx_i, kx_r, kx_s, kx_n, kx_l, kx_0, s_iload_n1, ldI_s, s_ifCond_eq, true_and, and_true, Nat.le_refl, true_implies, forall_const, not_false_eq_true, false_implies, not_true_eq_false, reduceCtorEq, tl_s, tl_n, rf_s, List.cons_append, List.nil_append, true_or, or_true, hc3]
      exact KA (Or.inl rfl)
    · by_cases c1 : kd = 1
      · subst c1
        refine B_Law_changed_51 ?_
        simp only [wp_cons, wp_nil, List.getElem?_cons_zero, List.getElem?_cons_succ, List.set_cons_zero, List.set_cons_succ, s_istore, p1_s, s1_0, s1_s, kx_i, kx_r, kx_s, kx_n, kx_l, kx_0, s_iload_n1, ldI_s, s_ifCond_eq, true_and, and_true, Nat.le_refl, true_implies, forall_const, not_false_eq_true, false_implies, not_true_eq_false, reduceCtorEq, tl_s, tl_n, rf_s, List.cons_append, List.nil_append, true_or, or_true, hc3]
        refine b_eq (by omega) (by omega) (fun cc => absurd cc (by omega)) (fun cc => ?_)
        refine B_Law_changed_57 ?_
        simp only [wp_cons, wp_nil, List.getElem?_cons_zero, List.getElem?_cons_succ, List.set_cons_zero, List.set_cons_succ, s_iload_n1, ldI_s, s_iconst, s_if_icmp_ne, p2_s, true_and, and_true, Nat.le_refl, true_implies, forall_const, not_false_eq_true, false_implies, not_true_eq_false, reduceCtorEq, tl_s, tl_n, rf_s, List.cons_append, List.nil_append, true_or, or_true, hc3]
        exact KA (Or.inr rfl)
      · by_cases c2 : kd = 2
        · subst c2
          refine B_Law_changed_51 ?_
          simp only [wp_cons, wp_nil, List.getElem?_cons_zero, List.getElem?_cons_succ, List.set_cons_zero, List.set_cons_succ, s_istore, p1_s, s1_0, s1_s, kx_i, kx_r, kx_s, kx_n, kx_l, kx_0, s_iload_n1, ldI_s, s_ifCond_eq, true_and, and_true, Nat.le_refl, true_implies, forall_const, not_false_eq_true, false_implies, not_true_eq_false, reduceCtorEq, tl_s, tl_n, rf_s, List.cons_append, List.nil_append, true_or, or_true, hc3]
          refine b_eq (by omega) (by omega) (fun cc => absurd cc (by omega)) (fun cc => ?_)
          refine B_Law_changed_57 ?_
          simp only [wp_cons, wp_nil, List.getElem?_cons_zero, List.getElem?_cons_succ, List.set_cons_zero, List.set_cons_succ, s_iload_n1, ldI_s, s_iconst, s_if_icmp_ne, p2_s, true_and, and_true, Nat.le_refl, true_implies, forall_const, not_false_eq_true, false_implies, not_true_eq_false, reduceCtorEq, tl_s, tl_n, rf_s, List.cons_append, List.nil_append, true_or, or_true, hc3]
          refine b_ne (by omega) (by omega) (fun cc => ?_) (fun cc => absurd cc (by omega))
          exact KB
        · by_cases c3 : kd = 3
          · subst c3
            refine B_Law_changed_51 ?_
            simp only [wp_cons, wp_nil, List.getElem?_cons_zero, List.getElem?_cons_succ, List.set_cons_zero, List.set_cons_succ, s_istore, p1_s, s1_0, s1_s, kx_i, kx_r, kx_s, kx_n, kx_l, kx_0, s_iload_n1, ldI_s, s_ifCond_eq, true_and, and_true, Nat.le_refl, true_implies, forall_const, not_false_eq_true, false_implies, not_true_eq_false, reduceCtorEq, tl_s, tl_n, rf_s, List.cons_append, List.nil_append, true_or, or_true, hc3]
            refine b_eq (by omega) (by omega) (fun cc => absurd cc (by omega)) (fun cc => ?_)
            refine B_Law_changed_57 ?_
            simp only [wp_cons, wp_nil, List.getElem?_cons_zero, List.getElem?_cons_succ, List.set_cons_zero, List.set_cons_succ, s_iload_n1, ldI_s, s_iconst, s_if_icmp_ne, p2_s, true_and, and_true, Nat.le_refl, true_implies, forall_const, not_false_eq_true, false_implies, not_true_eq_false, reduceCtorEq, tl_s, tl_n, rf_s, List.cons_append, List.nil_append, true_or, or_true, hc3]
            refine b_ne (by omega) (by omega) (fun cc => ?_) (fun cc => absurd cc (by omega))
            refine B_Law_changed_433 ?_
            simp only [wp_cons, wp_nil, List.getElem?_cons_zero, List.getElem?_cons_succ, List.set_cons_zero, List.set_cons_succ, s_iload_n1, ldI_s, s_iconst, s_if_icmp_ne, p2_s, true_and, and_true, Nat.le_refl, true_implies, forall_const, not_false_eq_true, false_implies, not_true_eq_false, reduceCtorEq, tl_s, tl_n, rf_s, List.cons_append, List.nil_append, true_or, or_true, hc3]
            refine b_ne (by omega) (by omega) (fun cc => ?_) (fun cc => absurd cc (by omega))
            exact KC
          · by_cases c4 : kd = 4
            · subst c4
              refine B_Law_changed_51 ?_
              simp only [wp_cons, wp_nil, List.getElem?_cons_zero, List.getElem?_cons_succ, List.set_cons_zero, List.set_cons_succ, s_istore, p1_s, s1_0, s1_s, kx_i, kx_r, kx_s, kx_n, kx_l, kx_0, s_iload_n1, ldI_s, s_ifCond_eq, true_and, and_true, Nat.le_refl, true_implies, forall_const, not_false_eq_true, false_implies, not_true_eq_false, reduceCtorEq, tl_s, tl_n, rf_s, List.cons_append, List.nil_append, true_or, or_true, hc3]
              refine b_eq (by omega) (by omega) (fun cc => absurd cc (by omega)) (fun cc => ?_)
              refine B_Law_changed_57 ?_
              simp only [wp_cons, wp_nil, List.getElem?_cons_zero, List.getElem?_cons_succ, List.set_cons_zero, List.set_cons_succ, s_iload_n1, ldI_s, s_iconst, s_if_icmp_ne, p2_s, true_and, and_true, Nat.le_refl, true_implies, forall_const, not_false_eq_true, false_implies, not_true_eq_false, reduceCtorEq, tl_s, tl_n, rf_s, List.cons_append, List.nil_append, true_or, or_true, hc3]
              refine b_ne (by omega) (by omega) (fun cc => ?_) (fun cc => absurd cc (by omega))
              refine B_Law_changed_433 ?_
              simp only [wp_cons, wp_nil, List.getElem?_cons_zero, List.getElem?_cons_succ, List.set_cons_zero, List.set_cons_succ, s_iload_n1, ldI_s, s_iconst, s_if_icmp_ne, p2_s, true_and, and_true, Nat.le_refl, true_implies, forall_const, not_false_eq_true, false_implies, not_true_eq_false, reduceCtorEq, tl_s, tl_n, rf_s, List.cons_append, List.nil_append, true_or, or_true, hc3]
              refine b_ne (by omega) (by omega) (fun cc => ?_) (fun cc => absurd cc (by omega))
              refine B_Law_changed_496 ?_
              simp only [wp_cons, wp_nil, List.getElem?_cons_zero, List.getElem?_cons_succ, List.set_cons_zero, List.set_cons_succ, s_iload_n1, ldI_s, s_iconst, s_if_icmp_ne, p2_s, true_and, and_true, Nat.le_refl, true_implies, forall_const, not_false_eq_true, false_implies, not_true_eq_false, reduceCtorEq, tl_s, tl_n, rf_s, List.cons_append, List.nil_append, true_or, or_true, hc3]
              refine b_ne (by omega) (by omega) (fun cc => ?_) (fun cc => absurd cc (by omega))
              exact KD
            · refine B_Law_changed_51 ?_
              simp only [wp_cons, wp_nil, List.getElem?_cons_zero, List.getElem?_cons_succ, List.set_cons_zero, List.set_cons_succ, s_istore, p1_s, s1_0, s1_s, kx_i, kx_r, kx_s, kx_n, kx_l, kx_0, s_iload_n1, ldI_s, s_ifCond_eq, true_and, and_true, Nat.le_refl, true_implies, forall_const, not_false_eq_true, false_implies, not_true_eq_false, reduceCtorEq, tl_s, tl_n, rf_s, List.cons_append, List.nil_append, true_or, or_true, hc3]
              refine b_eq (by omega) (by omega) (fun cc => absurd cc (by omega)) (fun cc => ?_)
              refine B_Law_changed_57 ?_
              simp only [wp_cons, wp_nil, List.getElem?_cons_zero, List.getElem?_cons_succ, List.set_cons_zero, List.set_cons_succ, s_iload_n1, ldI_s, s_iconst, s_if_icmp_ne, p2_s, true_and, and_true, Nat.le_refl, true_implies, forall_const, not_false_eq_true, false_implies, not_true_eq_false, reduceCtorEq, tl_s, tl_n, rf_s, List.cons_append, List.nil_append, true_or, or_true, hc3]
              refine b_ne (by omega) (by omega) (fun cc => ?_) (fun cc => absurd cc (by omega))
              refine B_Law_changed_433 ?_
              simp only [wp_cons, wp_nil, List.getElem?_cons_zero, List.getElem?_cons_succ, List.set_cons_zero, List.set_cons_succ, s_iload_n1, ldI_s, s_iconst, s_if_icmp_ne, p2_s, true_and, and_true, Nat.le_refl, true_implies, forall_const, not_false_eq_true, false_implies, not_true_eq_false, reduceCtorEq, tl_s, tl_n, rf_s, List.cons_append, List.nil_append, true_or, or_true, hc3]
              refine b_ne (by omega) (by omega) (fun cc => ?_) (fun cc => absurd cc (by omega))
              refine B_Law_changed_496 ?_
              simp only [wp_cons, wp_nil, List.getElem?_cons_zero, List.getElem?_cons_succ, List.set_cons_zero, List.set_cons_succ, s_iload_n1, ldI_s, s_iconst, s_if_icmp_ne, p2_s, true_and, and_true, Nat.le_refl, true_implies, forall_const, not_false_eq_true, false_implies, not_true_eq_false, reduceCtorEq, tl_s, tl_n, rf_s, List.cons_append, List.nil_append, true_or, or_true, hc3]
              refine b_ne (by omega) (by omega) (fun cc => ?_) (fun cc => absurd cc (by omega))
              refine B_Law_changed_582 ?_
              simp only [wp_cons, wp_nil, List.getElem?_cons_zero, List.getElem?_cons_succ, List.set_cons_zero, List.set_cons_succ, s_iload_n1, ldI_s, s_iconst, s_if_icmp_ne, p2_s, true_and, and_true, Nat.le_refl, true_implies, forall_const, not_false_eq_true, false_implies, not_true_eq_false, reduceCtorEq, tl_s, tl_n, rf_s, List.cons_append, List.nil_append, true_or, or_true, hc3]
              refine b_ne (by omega) (by omega) (fun cc => ?_) (fun cc => absurd cc (by omega))
              exact KE (by omega)
  by_cases z : (sg W.1.1 s).2 = true
  · have ez : sz (sg W.1.1 s).2 = 1 := if_pos z
    rw [ez] at K45 ⊢
    refine B_Law_changed_36 ?_
    simp only [wp_cons, wp_nil, List.getElem?_cons_zero, List.getElem?_cons_succ, List.set_cons_zero, List.set_cons_succ, s_iconst, s_if_icmp_ne, p2_s, true_and, and_true, Nat.le_refl, true_implies, forall_const, not_false_eq_true, false_implies, not_true_eq_false, reduceCtorEq, tl_s, tl_n, rf_s, List.cons_append, List.nil_append, true_or, or_true, hc3]
    refine B_Law_changed_40 ?_
    simp only [wp_cons, wp_nil, List.getElem?_cons_zero, List.getElem?_cons_succ, List.set_cons_zero, List.set_cons_succ, s_iconst, s_goto, true_and, and_true, Nat.le_refl, true_implies, forall_const, not_false_eq_true, false_implies, not_true_eq_false, reduceCtorEq, tl_s, tl_n, rf_s, List.cons_append, List.nil_append, true_or, or_true, hc3]
    exact K45
  · have ez : sz (sg W.1.1 s).2 = 0 := if_neg z
    rw [ez] at K45 ⊢
    refine B_Law_changed_36 ?_
    simp only [wp_cons, wp_nil, List.getElem?_cons_zero, List.getElem?_cons_succ, List.set_cons_zero, List.set_cons_succ, s_iconst, s_if_icmp_ne, p2_s, true_and, and_true, Nat.le_refl, true_implies, forall_const, not_false_eq_true, false_implies, not_true_eq_false, reduceCtorEq, tl_s, tl_n, rf_s, List.cons_append, List.nil_append, true_or, or_true, hc3]
    refine b_ne (by omega) (by omega) (fun cc => ?_) (fun cc => absurd cc (by omega))
    refine B_Law_changed_44 ?_
    simp only [wp_cons, wp_nil, List.getElem?_cons_zero, List.getElem?_cons_succ, List.set_cons_zero, List.set_cons_succ, s_iconst, true_and, and_true, Nat.le_refl, true_implies, forall_const, not_false_eq_true, false_implies, not_true_eq_false, reduceCtorEq, tl_s, tl_n, rf_s, List.cons_append, List.nil_append, true_or, or_true, hc3]
    exact K45
