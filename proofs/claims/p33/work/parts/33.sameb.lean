/-! ===== the law: same, the points of a stroke ===== -/
theorem I_rem_d {p : Int} (hp : pt p) : I p - I (p / 1000) * I 1000 = I (p % 1000) := by rw [I_mul, I_sub]; congr 1; omega
theorem Same_points {d : Nat} (hd : 10 ≤ d) {S : Stk} {a b s : Nat} {px py : Int} {acc : Int × Int} {f : Nat → Int} {h : g_H} {Q : g_Po} (wS : wfS S) (hs : s < 10) (hacc : nrk acc) (har : ary h a 32 f) (t : tkn S f) (hx : 0 ≤ px ∧ px < 130) (hy : 0 ≤ py ∧ py < 130) {z1 z2 z11 z12 z13 z14 z15 z16 : Int32} {x25 x26 x27 : Option Value}
    (hO : ∀ (v : Int × Int) (v17 v18 v19 v20 : Int) (x22 x23 x24 : Option Value), v = nrb (1000 * px + py) s (pg S.1) S.1.length acc → v17 = mxF false (fun i => pg S.1 i / 1000) S.1.length → v18 = mxF true (fun i => pg S.1 i / 1000) S.1.length → v19 = mxF false (fun i => pg S.1 i % 1000) S.1.length → v20 = mxF true (fun i => pg S.1 i % 1000) S.1.length → G Law_same d 2 64 2 64 512 [some (.ref 0), some (.int z1), some (.int z2), some (.ref a), some (.ref b), some (.int (I px)), some (.int (I py)), some (.int (I v.1)), some (.int (I v.2)), some (.int (I (s : Int))), some (.int (I (S.1.length : Int))), some (.int z11), some (.int z12), some (.int z13), some (.int z14), some (.int z15), some (.int z16), some (.int (I v17)), some (.int (I v18)), some (.int (I v19)), some (.int (I v20)), some (.int (I (S.1.length : Int))), x22, x23, x24, x25, x26, x27] [] h Q) :
    ∀ (m k : Nat) (v : Int × Int) (v17 v18 v19 v20 : Int) (x22 x23 x24 : Option Value), k + m = S.1.length → v = nrb (1000 * px + py) s (pg S.1) k acc → v17 = mxF false (fun i => pg S.1 i / 1000) k → v18 = mxF true (fun i => pg S.1 i / 1000) k → v19 = mxF false (fun i => pg S.1 i % 1000) k → v20 = mxF true (fun i => pg S.1 i % 1000) k → G Law_same d 2 64 2 64 371 [some (.ref 0), some (.int z1), some (.int z2), some (.ref a), some (.ref b), some (.int (I px)), some (.int (I py)), some (.int (I v.1)), some (.int (I v.2)), some (.int (I (s : Int))), some (.int (I (S.1.length : Int))), some (.int z11), some (.int z12), some (.int z13), some (.int z14), some (.int z15), some (.int z16), some (.int (I v17)), some (.int (I v18)), some (.int (I v19)), some (.int (I v20)), some (.int (I (k : Int))), x22, x23, x24, x25, x26, x27] [] h Q := by
  have d1 : 1 ≤ d := by omega
  have w1 := wS.1
  have w2 := wS.2.1
  have w3 := wS.2.2.1
  have har' : h[a]? = some (.inl (0, 32, fun i => I (f i))) := har
  intro m
  induction m with
  | zero =>
    intro k v v17 v18 v19 v20 x22 x23 x24 hk h0 h1 h2 h3 h4
    obtain rfl : k = S.1.length := by omega
    refine B_Law_same_371 ?_
    simp only [wp_cons, wp_nil, List.getElem?_cons_zero, List.getElem?_cons_succ, List.set_cons_zero, List.set_cons_succ, s_iload, ldI_s, s_if_icmp_ge, p2_s, true_and, and_true, Nat.le_refl, true_implies, forall_const, not_false_eq_true, false_implies, not_true_eq_false, reduceCtorEq, tl_s, tl_n, rf_s, List.cons_append, List.nil_append, true_or, or_true]
    refine b_le (by omega) (by omega) (fun cc => ?_) (fun cc => absurd cc (by omega))
    exact hO _ _ _ _ _ _ _ _ h0 h1 h2 h3 h4
  | succ m ih =>
    intro k v v17 v18 v19 v20 x22 x23 x24 hk h0 h1 h2 h3 h4
    have p1 := w3 k (by omega)
    have ps : pt (1000 * px + py) := by omega
    have b0 := sqd_bd p1 ps
    have bv : nrk v := by rw [h0]; exact nrb_k ps hs k acc (by omega) (fun i hi => w3 i (by omega)) hacc
    obtain ⟨bv1, bv2⟩ := bv
    have bx : ∀ i, i < k → 0 ≤ (fun i => pg S.1 i / 1000) i ∧ (fun i => pg S.1 i / 1000) i ≤ 999 := fun i hi => by have := w3 i (by omega); show 0 ≤ pg S.1 i / 1000 ∧ pg S.1 i / 1000 ≤ 999; omega
    have by9 : ∀ i, i < k → 0 ≤ (fun i => pg S.1 i % 1000) i ∧ (fun i => pg S.1 i % 1000) i ≤ 999 := fun i hi => by show 0 ≤ pg S.1 i % 1000 ∧ pg S.1 i % 1000 ≤ 999; omega
    have b17 := mxF_bd false _ k bx
    have b18 := mxF_bd true _ k bx
    have b19 := mxF_bd false _ k by9
    have b20 := mxF_bd true _ k by9
    rw [← h1] at b17
    rw [← h2] at b18
    rw [← h3] at b19
    rw [← h4] at b20
    have q1 : 0 ≤ pg S.1 k / 1000 ∧ pg S.1 k / 1000 ≤ 999 := by omega
    have q2 : 0 ≤ pg S.1 k % 1000 ∧ pg S.1 k % 1000 ≤ 999 := by omega
    have K460 : ∀ z17 z18 z19 z20 : Int, z17 = mmx false v17 (pg S.1 k / 1000) → z18 = mmx true v18 (pg S.1 k / 1000) → z19 = mmx false v19 (pg S.1 k % 1000) → z20 = mmx true v20 (pg S.1 k % 1000) → G Law_same d 2 64 2 64 460 [some (.ref 0), some (.int z1), some (.int z2), some (.ref a), some (.ref b), some (.int (I px)), some (.int (I py)), some (.int (I v.1)), some (.int (I v.2)), some (.int (I (s : Int))), some (.int (I (S.1.length : Int))), some (.int z11), some (.int z12), some (.int z13), some (.int z14), some (.int z15), some (.int z16), some (.int (I z17)), some (.int (I z18)), some (.int (I z19)), some (.int (I v20)), some (.int (I (k : Int))), some (.int (I (pg S.1 k / 1000))), some (.int (I (pg S.1 k % 1000))), x24, x25, x26, x27] [.int (I z20)] h Q := by
      intro z17 z18 z19 z20 g1 g2 g3 g4
      have m1 : z17 = mxF false (fun i => pg S.1 i / 1000) (k + 1) := by rw [g1, h1]; rfl
      have m2 : z18 = mxF true (fun i => pg S.1 i / 1000) (k + 1) := by rw [g2, h2]; rfl
      have m3 : z19 = mxF false (fun i => pg S.1 i % 1000) (k + 1) := by rw [g3, h3]; rfl
      have m4 : z20 = mxF true (fun i => pg S.1 i % 1000) (k + 1) := by rw [g4, h4]; rfl
      refine B_Law_same_460 ?_
      simp only [wp_cons, wp_nil, List.getElem?_cons_zero, List.getElem?_cons_succ, List.set_cons_zero, List.set_cons_succ, s_istore, p1_s, s1_0, s1_s, kx_i, kx_r, kx_s, kx_n, kx_l, kx_0, s_aload_n3, ldA_r, ldA_n, ldA_s, s_iload, ldI_s, s_iaload, iR_s, ia_s, s_sipush, s_imul, p2_s, I_mul, s_iadd, I_add, s_invokestatic, rc_s, ob_s, List.drop_succ_cons, List.drop_zero, List.take_succ_cons, List.take_zero, List.reverse_cons, List.reverse_nil, List.nil_append, List.cons_append, List.length_cons, List.length_nil, Nat.reduceEqDiff, eq_self, reduceIte, l1_s, d1, Int.reduceToNat, Nat.reduceAdd, Nat.reduceLeDiff, true_and, and_true, Nat.le_refl, true_implies, forall_const, not_false_eq_true, false_implies, not_true_eq_false, reduceCtorEq, tl_s, tl_n, rf_s, true_or, or_true, har', ex_ix (i := k) (n := 32) (by omega), t.k (k := k) (by omega)]
      refine Law_far_c p1 ps ?_
      by_cases e1 : v.1 = -6
      · refine B_Law_same_478 ?_
        simp only [wp_cons, wp_nil, List.getElem?_cons_zero, List.getElem?_cons_succ, List.set_cons_zero, List.set_cons_succ, s_istore, p1_s, s1_0, s1_s, kx_i, kx_r, kx_s, kx_n, kx_l, kx_0, s_iload, ldI_s, s_ifCond_lt, true_and, and_true, Nat.le_refl, true_implies, forall_const, not_false_eq_true, false_implies, not_true_eq_false, reduceCtorEq, tl_s, tl_n, rf_s, List.cons_append, List.nil_append, true_or, or_true, har', ex_ix (i := k) (n := 32) (by omega), t.k (k := k) (by omega)]
        refine b_lt (by omega) (by omega) (fun cc => ?_) (fun cc => absurd cc (by omega))
        refine B_Law_same_492 ?_
        simp only [wp_cons, wp_nil, List.getElem?_cons_zero, List.getElem?_cons_succ, List.set_cons_zero, List.set_cons_succ, s_bipush, s_iload, ldI_s, s_imul, p2_s, I_mul, s_iadd, I_add, s_istore, p1_s, s1_0, s1_s, kx_i, kx_r, kx_s, kx_n, kx_l, kx_0, true_and, and_true, Nat.le_refl, true_implies, forall_const, not_false_eq_true, false_implies, not_true_eq_false, reduceCtorEq, tl_s, tl_n, rf_s, List.cons_append, List.nil_append, true_or, or_true, har', ex_ix (i := k) (n := 32) (by omega), t.k (k := k) (by omega)]
        refine B_Law_same_506 ?_
        simp only [wp_cons, wp_nil, List.getElem?_cons_zero, List.getElem?_cons_succ, List.set_cons_zero, List.set_cons_succ, s_iinc, ldI_s, s1_0, s1_s, kx_i, kx_r, kx_s, kx_n, kx_l, kx_0, I_add, s_goto, true_and, and_true, Nat.le_refl, true_implies, forall_const, not_false_eq_true, false_implies, not_true_eq_false, reduceCtorEq, tl_s, tl_n, rf_s, List.cons_append, List.nil_append, true_or, or_true, har', ex_ix (i := k) (n := 32) (by omega), t.k (k := k) (by omega)]
        refine ih (k + 1) (100 * (s : Int) + (k : Int), sqd (pg S.1 k) (1000 * px + py)) _ _ _ _ _ _ _ (by omega) ?_ m1 m2 m3 m4
        unfold nrb
        rw [← h0, if_pos (Or.inl e1), sqd_comm]
      · by_cases e2 : sqd (pg S.1 k) (1000 * px + py) < v.2
        · refine B_Law_same_478 ?_
          simp only [wp_cons, wp_nil, List.getElem?_cons_zero, List.getElem?_cons_succ, List.set_cons_zero, List.set_cons_succ, s_istore, p1_s, s1_0, s1_s, kx_i, kx_r, kx_s, kx_n, kx_l, kx_0, s_iload, ldI_s, s_ifCond_lt, true_and, and_true, Nat.le_refl, true_implies, forall_const, not_false_eq_true, false_implies, not_true_eq_false, reduceCtorEq, tl_s, tl_n, rf_s, List.cons_append, List.nil_append, true_or, or_true, har', ex_ix (i := k) (n := 32) (by omega), t.k (k := k) (by omega)]
          refine b_lt (by omega) (by omega) (fun cc => absurd cc (by omega)) (fun cc => ?_)
          refine B_Law_same_485 ?_
          simp only [wp_cons, wp_nil, List.getElem?_cons_zero, List.getElem?_cons_succ, List.set_cons_zero, List.set_cons_succ, s_iload, ldI_s, s_if_icmp_ge, p2_s, true_and, and_true, Nat.le_refl, true_implies, forall_const, not_false_eq_true, false_implies, not_true_eq_false, reduceCtorEq, tl_s, tl_n, rf_s, List.cons_append, List.nil_append, true_or, or_true, har', ex_ix (i := k) (n := 32) (by omega), t.k (k := k) (by omega)]
          refine b_le (by omega) (by omega) (fun cc => absurd cc (by omega)) (fun cc => ?_)
          refine B_Law_same_492 ?_
          simp only [wp_cons, wp_nil, List.getElem?_cons_zero, List.getElem?_cons_succ, List.set_cons_zero, List.set_cons_succ, s_bipush, s_iload, ldI_s, s_imul, p2_s, I_mul, s_iadd, I_add, s_istore, p1_s, s1_0, s1_s, kx_i, kx_r, kx_s, kx_n, kx_l, kx_0, true_and, and_true, Nat.le_refl, true_implies, forall_const, not_false_eq_true, false_implies, not_true_eq_false, reduceCtorEq, tl_s, tl_n, rf_s, List.cons_append, List.nil_append, true_or, or_true, har', ex_ix (i := k) (n := 32) (by omega), t.k (k := k) (by omega)]
          refine B_Law_same_506 ?_
          simp only [wp_cons, wp_nil, List.getElem?_cons_zero, List.getElem?_cons_succ, List.set_cons_zero, List.set_cons_succ, s_iinc, ldI_s, s1_0, s1_s, kx_i, kx_r, kx_s, kx_n, kx_l, kx_0, I_add, s_goto, true_and, and_true, Nat.le_refl, true_implies, forall_const, not_false_eq_true, false_implies, not_true_eq_false, reduceCtorEq, tl_s, tl_n, rf_s, List.cons_append, List.nil_append, true_or, or_true, har', ex_ix (i := k) (n := 32) (by omega), t.k (k := k) (by omega)]
          refine ih (k + 1) (100 * (s : Int) + (k : Int), sqd (pg S.1 k) (1000 * px + py)) _ _ _ _ _ _ _ (by omega) ?_ m1 m2 m3 m4
          unfold nrb
          rw [← h0, if_pos (Or.inr (by rw [sqd_comm]; exact e2)), sqd_comm]
        · refine B_Law_same_478 ?_
          simp only [wp_cons, wp_nil, List.getElem?_cons_zero, List.getElem?_cons_succ, List.set_cons_zero, List.set_cons_succ, s_istore, p1_s, s1_0, s1_s, kx_i, kx_r, kx_s, kx_n, kx_l, kx_0, s_iload, ldI_s, s_ifCond_lt, true_and, and_true, Nat.le_refl, true_implies, forall_const, not_false_eq_true, false_implies, not_true_eq_false, reduceCtorEq, tl_s, tl_n, rf_s, List.cons_append, List.nil_append, true_or, or_true, har', ex_ix (i := k) (n := 32) (by omega), t.k (k := k) (by omega)]
          refine b_lt (by omega) (by omega) (fun cc => absurd cc (by omega)) (fun cc => ?_)
          refine B_Law_same_485 ?_
          simp only [wp_cons, wp_nil, List.getElem?_cons_zero, List.getElem?_cons_succ, List.set_cons_zero, List.set_cons_succ, s_iload, ldI_s, s_if_icmp_ge, p2_s, true_and, and_true, Nat.le_refl, true_implies, forall_const, not_false_eq_true, false_implies, not_true_eq_false, reduceCtorEq, tl_s, tl_n, rf_s, List.cons_append, List.nil_append, true_or, or_true, har', ex_ix (i := k) (n := 32) (by omega), t.k (k := k) (by omega)]
          refine b_le (by omega) (by omega) (fun cc => ?_) (fun cc => absurd cc (by omega))
          refine B_Law_same_506 ?_
          simp only [wp_cons, wp_nil, List.getElem?_cons_zero, List.getElem?_cons_succ, List.set_cons_zero, List.set_cons_succ, s_iinc, ldI_s, s1_0, s1_s, kx_i, kx_r, kx_s, kx_n, kx_l, kx_0, I_add, s_goto, true_and, and_true, Nat.le_refl, true_implies, forall_const, not_false_eq_true, false_implies, not_true_eq_false, reduceCtorEq, tl_s, tl_n, rf_s, List.cons_append, List.nil_append, true_or, or_true, har', ex_ix (i := k) (n := 32) (by omega), t.k (k := k) (by omega)]
          refine ih (k + 1) v _ _ _ _ _ _ _ (by omega) ?_ m1 m2 m3 m4
          unfold nrb
          rw [← h0, if_neg (fun q => q.elim e1 (fun q => e2 (by rw [sqd_comm]; exact q)))]
    have K444 : ∀ z17 z18 z19 : Int, z17 = mmx false v17 (pg S.1 k / 1000) → z18 = mmx true v18 (pg S.1 k / 1000) → z19 = mmx false v19 (pg S.1 k % 1000) → G Law_same d 2 64 2 64 444 [some (.ref 0), some (.int z1), some (.int z2), some (.ref a), some (.ref b), some (.int (I px)), some (.int (I py)), some (.int (I v.1)), some (.int (I v.2)), some (.int (I (s : Int))), some (.int (I (S.1.length : Int))), some (.int z11), some (.int z12), some (.int z13), some (.int z14), some (.int z15), some (.int z16), some (.int (I z17)), some (.int (I z18)), some (.int (I v19)), some (.int (I v20)), some (.int (I (k : Int))), some (.int (I (pg S.1 k / 1000))), some (.int (I (pg S.1 k % 1000))), x24, x25, x26, x27] [.int (I z19)] h Q := by
      intro z17 z18 z19 g1 g2 g3
      by_cases e : v20 < pg S.1 k % 1000
      · refine B_Law_same_444 ?_
        simp only [wp_cons, wp_nil, List.getElem?_cons_zero, List.getElem?_cons_succ, List.set_cons_zero, List.set_cons_succ, s_istore, p1_s, s1_0, s1_s, kx_i, kx_r, kx_s, kx_n, kx_l, kx_0, s_iload, ldI_s, s_if_icmp_le, p2_s, true_and, and_true, Nat.le_refl, true_implies, forall_const, not_false_eq_true, false_implies, not_true_eq_false, reduceCtorEq, tl_s, tl_n, rf_s, List.cons_append, List.nil_append, true_or, or_true, har', ex_ix (i := k) (n := 32) (by omega), t.k (k := k) (by omega)]
        refine b_le (by omega) (by omega) (fun cc => absurd cc (by omega)) (fun cc => ?_)
        refine B_Law_same_453 ?_
        simp only [wp_cons, wp_nil, List.getElem?_cons_zero, List.getElem?_cons_succ, List.set_cons_zero, List.set_cons_succ, s_iload, ldI_s, s_goto, true_and, and_true, Nat.le_refl, true_implies, forall_const, not_false_eq_true, false_implies, not_true_eq_false, reduceCtorEq, tl_s, tl_n, rf_s, List.cons_append, List.nil_append, true_or, or_true, har', ex_ix (i := k) (n := 32) (by omega), t.k (k := k) (by omega)]
        exact K460 z17 z18 z19 _ g1 g2 g3 (show _ = max _ _ by omega)
      · refine B_Law_same_444 ?_
        simp only [wp_cons, wp_nil, List.getElem?_cons_zero, List.getElem?_cons_succ, List.set_cons_zero, List.set_cons_succ, s_istore, p1_s, s1_0, s1_s, kx_i, kx_r, kx_s, kx_n, kx_l, kx_0, s_iload, ldI_s, s_if_icmp_le, p2_s, true_and, and_true, Nat.le_refl, true_implies, forall_const, not_false_eq_true, false_implies, not_true_eq_false, reduceCtorEq, tl_s, tl_n, rf_s, List.cons_append, List.nil_append, true_or, or_true, har', ex_ix (i := k) (n := 32) (by omega), t.k (k := k) (by omega)]
        refine b_le (by omega) (by omega) (fun cc => ?_) (fun cc => absurd cc (by omega))
        refine B_Law_same_458 ?_
        simp only [wp_cons, wp_nil, List.getElem?_cons_zero, List.getElem?_cons_succ, List.set_cons_zero, List.set_cons_succ, s_iload, ldI_s, true_and, and_true, Nat.le_refl, true_implies, forall_const, not_false_eq_true, false_implies, not_true_eq_false, reduceCtorEq, tl_s, tl_n, rf_s, List.cons_append, List.nil_append, true_or, or_true, har', ex_ix (i := k) (n := 32) (by omega), t.k (k := k) (by omega)]
        exact K460 z17 z18 z19 _ g1 g2 g3 (show _ = max _ _ by omega)
    have K428 : ∀ z17 z18 : Int, z17 = mmx false v17 (pg S.1 k / 1000) → z18 = mmx true v18 (pg S.1 k / 1000) → G Law_same d 2 64 2 64 428 [some (.ref 0), some (.int z1), some (.int z2), some (.ref a), some (.ref b), some (.int (I px)), some (.int (I py)), some (.int (I v.1)), some (.int (I v.2)), some (.int (I (s : Int))), some (.int (I (S.1.length : Int))), some (.int z11), some (.int z12), some (.int z13), some (.int z14), some (.int z15), some (.int z16), some (.int (I z17)), some (.int (I v18)), some (.int (I v19)), some (.int (I v20)), some (.int (I (k : Int))), some (.int (I (pg S.1 k / 1000))), some (.int (I (pg S.1 k % 1000))), x24, x25, x26, x27] [.int (I z18)] h Q := by
      intro z17 z18 g1 g2
      by_cases e : pg S.1 k % 1000 < v19
      · refine B_Law_same_428 ?_
        simp only [wp_cons, wp_nil, List.getElem?_cons_zero, List.getElem?_cons_succ, List.set_cons_zero, List.set_cons_succ, s_istore, p1_s, s1_0, s1_s, kx_i, kx_r, kx_s, kx_n, kx_l, kx_0, s_iload, ldI_s, s_if_icmp_ge, p2_s, true_and, and_true, Nat.le_refl, true_implies, forall_const, not_false_eq_true, false_implies, not_true_eq_false, reduceCtorEq, tl_s, tl_n, rf_s, List.cons_append, List.nil_append, true_or, or_true, har', ex_ix (i := k) (n := 32) (by omega), t.k (k := k) (by omega)]
        refine b_le (by omega) (by omega) (fun cc => absurd cc (by omega)) (fun cc => ?_)
        refine B_Law_same_437 ?_
        simp only [wp_cons, wp_nil, List.getElem?_cons_zero, List.getElem?_cons_succ, List.set_cons_zero, List.set_cons_succ, s_iload, ldI_s, s_goto, true_and, and_true, Nat.le_refl, true_implies, forall_const, not_false_eq_true, false_implies, not_true_eq_false, reduceCtorEq, tl_s, tl_n, rf_s, List.cons_append, List.nil_append, true_or, or_true, har', ex_ix (i := k) (n := 32) (by omega), t.k (k := k) (by omega)]
        exact K444 z17 z18 _ g1 g2 (show _ = min _ _ by omega)
      · refine B_Law_same_428 ?_
        simp only [wp_cons, wp_nil, List.getElem?_cons_zero, List.getElem?_cons_succ, List.set_cons_zero, List.set_cons_succ, s_istore, p1_s, s1_0, s1_s, kx_i, kx_r, kx_s, kx_n, kx_l, kx_0, s_iload, ldI_s, s_if_icmp_ge, p2_s, true_and, and_true, Nat.le_refl, true_implies, forall_const, not_false_eq_true, false_implies, not_true_eq_false, reduceCtorEq, tl_s, tl_n, rf_s, List.cons_append, List.nil_append, true_or, or_true, har', ex_ix (i := k) (n := 32) (by omega), t.k (k := k) (by omega)]
        refine b_le (by omega) (by omega) (fun cc => ?_) (fun cc => absurd cc (by omega))
        refine B_Law_same_442 ?_
        simp only [wp_cons, wp_nil, List.getElem?_cons_zero, List.getElem?_cons_succ, List.set_cons_zero, List.set_cons_succ, s_iload, ldI_s, true_and, and_true, Nat.le_refl, true_implies, forall_const, not_false_eq_true, false_implies, not_true_eq_false, reduceCtorEq, tl_s, tl_n, rf_s, List.cons_append, List.nil_append, true_or, or_true, har', ex_ix (i := k) (n := 32) (by omega), t.k (k := k) (by omega)]
        exact K444 z17 z18 _ g1 g2 (show _ = min _ _ by omega)
    have K412 : ∀ z17 : Int, z17 = mmx false v17 (pg S.1 k / 1000) → G Law_same d 2 64 2 64 412 [some (.ref 0), some (.int z1), some (.int z2), some (.ref a), some (.ref b), some (.int (I px)), some (.int (I py)), some (.int (I v.1)), some (.int (I v.2)), some (.int (I (s : Int))), some (.int (I (S.1.length : Int))), some (.int z11), some (.int z12), some (.int z13), some (.int z14), some (.int z15), some (.int z16), some (.int (I v17)), some (.int (I v18)), some (.int (I v19)), some (.int (I v20)), some (.int (I (k : Int))), some (.int (I (pg S.1 k / 1000))), some (.int (I (pg S.1 k % 1000))), x24, x25, x26, x27] [.int (I z17)] h Q := by
      intro z17 g1
      by_cases e : v18 < pg S.1 k / 1000
      · refine B_Law_same_412 ?_
        simp only [wp_cons, wp_nil, List.getElem?_cons_zero, List.getElem?_cons_succ, List.set_cons_zero, List.set_cons_succ, s_istore, p1_s, s1_0, s1_s, kx_i, kx_r, kx_s, kx_n, kx_l, kx_0, s_iload, ldI_s, s_if_icmp_le, p2_s, true_and, and_true, Nat.le_refl, true_implies, forall_const, not_false_eq_true, false_implies, not_true_eq_false, reduceCtorEq, tl_s, tl_n, rf_s, List.cons_append, List.nil_append, true_or, or_true, har', ex_ix (i := k) (n := 32) (by omega), t.k (k := k) (by omega)]
        refine b_le (by omega) (by omega) (fun cc => absurd cc (by omega)) (fun cc => ?_)
        refine B_Law_same_421 ?_
        simp only [wp_cons, wp_nil, List.getElem?_cons_zero, List.getElem?_cons_succ, List.set_cons_zero, List.set_cons_succ, s_iload, ldI_s, s_goto, true_and, and_true, Nat.le_refl, true_implies, forall_const, not_false_eq_true, false_implies, not_true_eq_false, reduceCtorEq, tl_s, tl_n, rf_s, List.cons_append, List.nil_append, true_or, or_true, har', ex_ix (i := k) (n := 32) (by omega), t.k (k := k) (by omega)]
        exact K428 z17 _ g1 (show _ = max _ _ by omega)
      · refine B_Law_same_412 ?_
        simp only [wp_cons, wp_nil, List.getElem?_cons_zero, List.getElem?_cons_succ, List.set_cons_zero, List.set_cons_succ, s_istore, p1_s, s1_0, s1_s, kx_i, kx_r, kx_s, kx_n, kx_l, kx_0, s_iload, ldI_s, s_if_icmp_le, p2_s, true_and, and_true, Nat.le_refl, true_implies, forall_const, not_false_eq_true, false_implies, not_true_eq_false, reduceCtorEq, tl_s, tl_n, rf_s, List.cons_append, List.nil_append, true_or, or_true, har', ex_ix (i := k) (n := 32) (by omega), t.k (k := k) (by omega)]
        refine b_le (by omega) (by omega) (fun cc => ?_) (fun cc => absurd cc (by omega))
        refine B_Law_same_426 ?_
        simp only [wp_cons, wp_nil, List.getElem?_cons_zero, List.getElem?_cons_succ, List.set_cons_zero, List.set_cons_succ, s_iload, ldI_s, true_and, and_true, Nat.le_refl, true_implies, forall_const, not_false_eq_true, false_implies, not_true_eq_false, reduceCtorEq, tl_s, tl_n, rf_s, List.cons_append, List.nil_append, true_or, or_true, har', ex_ix (i := k) (n := 32) (by omega), t.k (k := k) (by omega)]
        exact K428 z17 _ g1 (show _ = max _ _ by omega)
    by_cases e : pg S.1 k / 1000 < v17
    · refine B_Law_same_371 ?_
      simp only [wp_cons, wp_nil, List.getElem?_cons_zero, List.getElem?_cons_succ, List.set_cons_zero, List.set_cons_succ, s_iload, ldI_s, s_if_icmp_ge, p2_s, true_and, and_true, Nat.le_refl, true_implies, forall_const, not_false_eq_true, false_implies, not_true_eq_false, reduceCtorEq, tl_s, tl_n, rf_s, List.cons_append, List.nil_append, true_or, or_true, har', ex_ix (i := k) (n := 32) (by omega), t.k (k := k) (by omega), I_div1000 p1, I_rem_d p1]
      refine b_le (by omega) (by omega) (fun cc => absurd cc (by omega)) (fun cc => ?_)
      refine B_Law_same_378 ?_
      simp only [wp_cons, wp_nil, List.getElem?_cons_zero, List.getElem?_cons_succ, List.set_cons_zero, List.set_cons_succ, s_aload_n3, ldA_r, ldA_n, ldA_s, s_iload, ldI_s, s_iaload, iR_s, ia_s, s_sipush, s_idiv, p2_s, ne_k1000, ne_k2, s_istore, p1_s, s1_0, s1_s, kx_i, kx_r, kx_s, kx_n, kx_l, kx_0, s_irem, s_if_icmp_ge, true_and, and_true, Nat.le_refl, true_implies, forall_const, not_false_eq_true, false_implies, not_true_eq_false, reduceCtorEq, tl_s, tl_n, rf_s, List.cons_append, List.nil_append, true_or, or_true, har', ex_ix (i := k) (n := 32) (by omega), t.k (k := k) (by omega), I_div1000 p1, I_rem_d p1]
      refine b_le (by omega) (by omega) (fun cc => absurd cc (by omega)) (fun cc => ?_)
      refine B_Law_same_405 ?_
      simp only [wp_cons, wp_nil, List.getElem?_cons_zero, List.getElem?_cons_succ, List.set_cons_zero, List.set_cons_succ, s_iload, ldI_s, s_goto, true_and, and_true, Nat.le_refl, true_implies, forall_const, not_false_eq_true, false_implies, not_true_eq_false, reduceCtorEq, tl_s, tl_n, rf_s, List.cons_append, List.nil_append, true_or, or_true, har', ex_ix (i := k) (n := 32) (by omega), t.k (k := k) (by omega), I_div1000 p1, I_rem_d p1]
      exact K412 _ (show _ = min _ _ by omega)
    · refine B_Law_same_371 ?_
      simp only [wp_cons, wp_nil, List.getElem?_cons_zero, List.getElem?_cons_succ, List.set_cons_zero, List.set_cons_succ, s_iload, ldI_s, s_if_icmp_ge, p2_s, true_and, and_true, Nat.le_refl, true_implies, forall_const, not_false_eq_true, false_implies, not_true_eq_false, reduceCtorEq, tl_s, tl_n, rf_s, List.cons_append, List.nil_append, true_or, or_true, har', ex_ix (i := k) (n := 32) (by omega), t.k (k := k) (by omega), I_div1000 p1, I_rem_d p1]
      refine b_le (by omega) (by omega) (fun cc => absurd cc (by omega)) (fun cc => ?_)
      refine B_Law_same_378 ?_
      simp only [wp_cons, wp_nil, List.getElem?_cons_zero, List.getElem?_cons_succ, List.set_cons_zero, List.set_cons_succ, s_aload_n3, ldA_r, ldA_n, ldA_s, s_iload, ldI_s, s_iaload, iR_s, ia_s, s_sipush, s_idiv, p2_s, ne_k1000, ne_k2, s_istore, p1_s, s1_0, s1_s, kx_i, kx_r, kx_s, kx_n, kx_l, kx_0, s_irem, s_if_icmp_ge, true_and, and_true, Nat.le_refl, true_implies, forall_const, not_false_eq_true, false_implies, not_true_eq_false, reduceCtorEq, tl_s, tl_n, rf_s, List.cons_append, List.nil_append, true_or, or_true, har', ex_ix (i := k) (n := 32) (by omega), t.k (k := k) (by omega), I_div1000 p1, I_rem_d p1]
      refine b_le (by omega) (by omega) (fun cc => ?_) (fun cc => absurd cc (by omega))
      refine B_Law_same_410 ?_
      simp only [wp_cons, wp_nil, List.getElem?_cons_zero, List.getElem?_cons_succ, List.set_cons_zero, List.set_cons_succ, s_iload, ldI_s, true_and, and_true, Nat.le_refl, true_implies, forall_const, not_false_eq_true, false_implies, not_true_eq_false, reduceCtorEq, tl_s, tl_n, rf_s, List.cons_append, List.nil_append, true_or, or_true, har', ex_ix (i := k) (n := 32) (by omega), t.k (k := k) (by omega), I_div1000 p1, I_rem_d p1]
      exact K412 _ (show _ = min _ _ by omega)
