/-! ===== the law: simple, its passes ===== -/
def ppv (S : Stk) (t : Int) (m0 m p b : Nat) : Prop := sinv S t m ∧ m0 ≤ m ∧ p < b ∧ p ≤ pcs S ∧ isS m0 S.1.length p ∧ (∀ k, p < k → k < b → ¬ isS m0 S.1.length k) ∧ (∀ k, p ≤ k → (m.testBit k = true ↔ m0.testBit k = true)) ∧ (m = m0 → sfix S t m0 p)
theorem ppv.skip {S : Stk} {t : Int} {m0 m p b : Nat} (h : ppv S t m0 m p b) (hb : ¬ isS m0 S.1.length b) : ppv S t m0 m p (b + 1) := by
  obtain ⟨h1, h2, h3, h4, h5, h6, h7, h8⟩ := h
  refine ⟨h1, h2, by omega, h4, h5, fun k k1 k2 => ?_, h7, h8⟩
  by_cases e : k = b
  · rw [e]; exact hb
  · exact h6 k k1 (by omega)
theorem ppv.take {S : Stk} {t : Int} {m0 m p b m2 : Nat} (h : ppv S t m0 m p b) (hb : isS m0 S.1.length b) (hbE : b ≤ pcs S) (hpn : p < S.1.length) (h9 : (m2 = m ∧ (b ≤ p + 1 ∨ owS S p b < t)) ∨ (m2 = m ||| 2 ^ frS S p b ∧ p + 1 < b ∧ t ≤ owS S p b)) : ppv S t m0 m2 b (b + 1) := by
  obtain ⟨h1, h2, h3, h4, h5, h6, h7, h8⟩ := h
  have hpb : m0.testBit p = true := h5.elim (fun q => by omega) id
  have hg0 : gap m0 S.1.length p b := ⟨h3, hpb, hb, fun k k1 k2 q => h6 k k1 k2 (Or.inr q)⟩
  have hg : gap m S.1.length p b := ⟨h3, (h7 p (Nat.le_refl _)).mpr hpb, hb.elim Or.inl (fun q => Or.inr ((h7 b (by omega)).mpr q)), fun k k1 k2 q => h6 k k1 k2 (Or.inr ((h7 k (by omega)).mp q))⟩
  rcases h9 with ⟨rfl, h9⟩ | ⟨rfl, h9, h10⟩
  · refine ⟨h1, h2, by omega, hbE, hb, fun k k1 k2 => by omega, fun k hk => h7 k (by omega), fun e a' b' q q2 => ?_⟩
    by_cases c : b' ≤ p
    · exact h8 e a' b' q c
    · obtain ⟨q1, q3, q4, q5⟩ := q
      have e1 : b' = b := by
        rcases q4 with x | x
        · rcases hb with y | y
          · omega
          · have := (h1.2.2.1 b ((h7 b (by omega)).mpr y)).1
            omega
        · by_cases y : b' = b
          · exact y
          · exact absurd (Or.inr x) (h6 b' (by omega) (by omega))
      have e2 : a' = p := by
        rcases Nat.lt_trichotomy a' p with x | x | x
        · exact absurd hpb (q5 p x (by omega))
        · exact x
        · exact absurd (Or.inr q3) (h6 a' x (by omega))
      rw [e1, e2]
      exact h9
  · have hf := frS_rng S h9
    have hn : ¬ m.testBit (frS S p b) = true := hg.2.2.2 _ hf.1 hf.2
    refine ⟨h1.add hg hbE h9 h10, Nat.le_trans h2 Nat.left_le_or, by omega, hbE, hb, fun k k1 k2 => by omega, fun k hk => ?_, fun e => ?_⟩
    · rw [tbo, h7 k (by omega)]
      exact ⟨fun q => q.elim id (fun q => by omega), Or.inl⟩
    · exfalso
      have : (m ||| 2 ^ frS S p b).testBit (frS S p b) = true := tbo.mpr (Or.inr rfl)
      rw [e] at this
      exact h6 _ hf.1 hf.2 (Or.inr this)
theorem Simple_pass {d : Nat} (hd : 3 ≤ d) {S : Stk} {a : Nat} {t : Int} {f : Nat → Int} {h : g_H} {Q : g_Po} (wS : wfS S) (ht : 0 ≤ t ∧ t ≤ 200) (har : ary h a 32 f) (tk : tkn S f) {m0 : Nat} (hm0 : m0 < 1073741824) (hO : ∀ (m p : Nat) (x9 x10 x11 x12 x13 x14 x15 x16 : Option Value), sinv S t m → m0 ≤ m → (m = m0 → sfix S t m0 (pcs S)) → G Law_simple d 0 0 0 0 294 [some (.ref a), some (.int (I (S.1.length : Int))), some (.int (I (sz S.2))), some (.int (I t)), some (.int (I (m : Int))), some (.int (I (pcs S : Int))), some (.int (I (m0 : Int))), some (.int (I (p : Int))), some (.int (I ((pcs S + 1 : Nat) : Int))), x9, x10, x11, x12, x13, x14, x15, x16] [] h Q) : ∀ (j b p m : Nat) (x9 x10 x11 x12 x13 x14 x15 x16 : Option Value), b + j = pcs S + 1 → ppv S t m0 m p b → G Law_simple d 0 0 0 0 107 [some (.ref a), some (.int (I (S.1.length : Int))), some (.int (I (sz S.2))), some (.int (I t)), some (.int (I (m : Int))), some (.int (I (pcs S : Int))), some (.int (I (m0 : Int))), some (.int (I (p : Int))), some (.int (I (b : Int))), x9, x10, x11, x12, x13, x14, x15, x16] [] h Q := by
  have d1 : 1 ≤ d := by omega
  have hpc : pcs S ≤ S.1.length := pcs_le
  have w1 := wS.1
  have w2 := wS.2.1
  have w3 := wS.2.2.1
  have har' : h[a]? = some (.inl (0, 32, fun i => I (f i))) := har
  intro j
  induction j with
  | zero =>
    intro b p m x9 x10 x11 x12 x13 x14 x15 x16 hb hi
    obtain rfl : b = pcs S + 1 := by omega
    obtain ⟨h1, h2, h3, h4, h5, h6, h7, h8⟩ := hi
    refine B_Law_simple_107 ?_
    simp only [wp_cons, wp_nil, List.getElem?_cons_zero, List.getElem?_cons_succ, List.set_cons_zero, List.set_cons_succ, s_iload, ldI_s, s_if_icmp_gt, p2_s, true_and, and_true, Nat.le_refl, true_implies, forall_const, not_false_eq_true, false_implies, not_true_eq_false, reduceCtorEq, tl_s, tl_n, rf_s, List.cons_append, List.nil_append, true_or, or_true]
    refine b_lt (by omega) (by omega) (fun cc => ?_) (fun cc => absurd cc (by omega))
    refine hO m p _ _ _ _ _ _ _ _ h1 h2 (fun e => ?_)
    have ep9 : p = pcs S := by
      by_cases c : p = pcs S
      · exact c
      · exfalso
        exact h6 (pcs S) (by omega) (by omega) (h1.2.1.elim Or.inl (fun x => Or.inr ((h7 _ h4).mp x)))
    rw [← ep9]
    exact h8 e
  | succ j ih =>
    intro b p m x9 x10 x11 x12 x13 x14 x15 x16 hb hi
    obtain ⟨h1, h2, h3, h4, h5, h6, h7, h8⟩ := id hi
    have hml := h1.lt wS
    have K133 : isS m0 S.1.length b → p < S.1.length → G Law_simple d 0 0 0 0 133 [some (.ref a), some (.int (I (S.1.length : Int))), some (.int (I (sz S.2))), some (.int (I t)), some (.int (I (m : Int))), some (.int (I (pcs S : Int))), some (.int (I (m0 : Int))), some (.int (I (p : Int))), some (.int (I (b : Int))), x9, x10, x11, x12, x13, x14, x15, x16] [] h Q := by
      intro hs hpn
      refine Simple_gap hd wS ht har tk h3 (show b ≤ pcs S by omega) hpn hml (fun m2 y9 y10 y11 y12 y13 y14 y15 y16 h9 => ?_)
      refine B_Law_simple_284 ?_
      simp only [wp_cons, wp_nil, List.getElem?_cons_zero, List.getElem?_cons_succ, List.set_cons_zero, List.set_cons_succ, s_iload, ldI_s, s_istore, p1_s, s1_0, s1_s, kx_i, kx_r, kx_s, kx_n, kx_l, kx_0, true_and, and_true, Nat.le_refl, true_implies, forall_const, not_false_eq_true, false_implies, not_true_eq_false, reduceCtorEq, tl_s, tl_n, rf_s, List.cons_append, List.nil_append, true_or, or_true]
      refine B_Law_simple_288 ?_
      simp only [wp_cons, wp_nil, List.getElem?_cons_zero, List.getElem?_cons_succ, List.set_cons_zero, List.set_cons_succ, s_iinc, ldI_s, s1_0, s1_s, kx_i, kx_r, kx_s, kx_n, kx_l, kx_0, I_add, s_goto, true_and, and_true, Nat.le_refl, true_implies, forall_const, not_false_eq_true, false_implies, not_true_eq_false, reduceCtorEq, tl_s, tl_n, rf_s, List.cons_append, List.nil_append, true_or, or_true]
      exact ih (b + 1) b m2 _ _ _ _ _ _ _ _ (by omega) (hi.take hs (by omega) hpn h9)
    by_cases c : b < S.1.length
    · by_cases c2 : m0.testBit b = true
      · refine B_Law_simple_107 ?_
        simp only [wp_cons, wp_nil, List.getElem?_cons_zero, List.getElem?_cons_succ, List.set_cons_zero, List.set_cons_succ, s_iload, ldI_s, s_if_icmp_gt, p2_s, true_and, and_true, Nat.le_refl, true_implies, forall_const, not_false_eq_true, false_implies, not_true_eq_false, reduceCtorEq, tl_s, tl_n, rf_s, List.cons_append, List.nil_append, true_or, or_true, I_bit (show m0 < 2147483648 by omega) (show b < 31 by omega), tb_t c2]
        refine b_lt (by omega) (by omega) (fun cc => absurd cc (by omega)) (fun cc => ?_)
        refine B_Law_simple_114 ?_
        simp only [wp_cons, wp_nil, List.getElem?_cons_zero, List.getElem?_cons_succ, List.set_cons_zero, List.set_cons_succ, s_iload, ldI_s, s_iload_n1, s_if_icmp_ge, p2_s, true_and, and_true, Nat.le_refl, true_implies, forall_const, not_false_eq_true, false_implies, not_true_eq_false, reduceCtorEq, tl_s, tl_n, rf_s, List.cons_append, List.nil_append, true_or, or_true, I_bit (show m0 < 2147483648 by omega) (show b < 31 by omega), tb_t c2]
        refine b_le (by omega) (by omega) (fun cc => absurd cc (by omega)) (fun cc => ?_)
        refine B_Law_simple_120 ?_
        simp only [wp_cons, wp_nil, List.getElem?_cons_zero, List.getElem?_cons_succ, List.set_cons_zero, List.set_cons_succ, s_iload, ldI_s, s_ishr, p2_s, s_iconst, s_iand, s_ifCond_ne, p1_s, true_and, and_true, Nat.le_refl, true_implies, forall_const, not_false_eq_true, false_implies, not_true_eq_false, reduceCtorEq, tl_s, tl_n, rf_s, List.cons_append, List.nil_append, true_or, or_true, I_bit (show m0 < 2147483648 by omega) (show b < 31 by omega), tb_t c2]
        refine b_ne (by omega) (by omega) (fun cc => ?_) (fun cc => absurd cc (by omega))
        exact K133 (Or.inr c2) (by omega)
      · refine B_Law_simple_107 ?_
        simp only [wp_cons, wp_nil, List.getElem?_cons_zero, List.getElem?_cons_succ, List.set_cons_zero, List.set_cons_succ, s_iload, ldI_s, s_if_icmp_gt, p2_s, true_and, and_true, Nat.le_refl, true_implies, forall_const, not_false_eq_true, false_implies, not_true_eq_false, reduceCtorEq, tl_s, tl_n, rf_s, List.cons_append, List.nil_append, true_or, or_true, I_bit (show m0 < 2147483648 by omega) (show b < 31 by omega), tb_f c2]
        refine b_lt (by omega) (by omega) (fun cc => absurd cc (by omega)) (fun cc => ?_)
        refine B_Law_simple_114 ?_
        simp only [wp_cons, wp_nil, List.getElem?_cons_zero, List.getElem?_cons_succ, List.set_cons_zero, List.set_cons_succ, s_iload, ldI_s, s_iload_n1, s_if_icmp_ge, p2_s, true_and, and_true, Nat.le_refl, true_implies, forall_const, not_false_eq_true, false_implies, not_true_eq_false, reduceCtorEq, tl_s, tl_n, rf_s, List.cons_append, List.nil_append, true_or, or_true, I_bit (show m0 < 2147483648 by omega) (show b < 31 by omega), tb_f c2]
        refine b_le (by omega) (by omega) (fun cc => absurd cc (by omega)) (fun cc => ?_)
        refine B_Law_simple_120 ?_
        simp only [wp_cons, wp_nil, List.getElem?_cons_zero, List.getElem?_cons_succ, List.set_cons_zero, List.set_cons_succ, s_iload, ldI_s, s_ishr, p2_s, s_iconst, s_iand, s_ifCond_ne, p1_s, true_and, and_true, Nat.le_refl, true_implies, forall_const, not_false_eq_true, false_implies, not_true_eq_false, reduceCtorEq, tl_s, tl_n, rf_s, List.cons_append, List.nil_append, true_or, or_true, I_bit (show m0 < 2147483648 by omega) (show b < 31 by omega), tb_f c2]
        refine B_Law_simple_130 ?_
        simp only [wp_cons, wp_nil, List.getElem?_cons_zero, List.getElem?_cons_succ, List.set_cons_zero, List.set_cons_succ, s_goto, true_and, and_true, Nat.le_refl, true_implies, forall_const, not_false_eq_true, false_implies, not_true_eq_false, reduceCtorEq, tl_s, tl_n, rf_s, List.cons_append, List.nil_append, true_or, or_true, I_bit (show m0 < 2147483648 by omega) (show b < 31 by omega), tb_f c2]
        refine B_Law_simple_288 ?_
        simp only [wp_cons, wp_nil, List.getElem?_cons_zero, List.getElem?_cons_succ, List.set_cons_zero, List.set_cons_succ, s_iinc, ldI_s, s1_0, s1_s, kx_i, kx_r, kx_s, kx_n, kx_l, kx_0, I_add, s_goto, true_and, and_true, Nat.le_refl, true_implies, forall_const, not_false_eq_true, false_implies, not_true_eq_false, reduceCtorEq, tl_s, tl_n, rf_s, List.cons_append, List.nil_append, true_or, or_true, I_bit (show m0 < 2147483648 by omega) (show b < 31 by omega), tb_f c2]
        exact ih (b + 1) p m _ _ _ _ _ _ _ _ (by omega) (hi.skip (fun q => q.elim (fun q => by omega) c2))
    · refine B_Law_simple_107 ?_
      simp only [wp_cons, wp_nil, List.getElem?_cons_zero, List.getElem?_cons_succ, List.set_cons_zero, List.set_cons_succ, s_iload, ldI_s, s_if_icmp_gt, p2_s, true_and, and_true, Nat.le_refl, true_implies, forall_const, not_false_eq_true, false_implies, not_true_eq_false, reduceCtorEq, tl_s, tl_n, rf_s, List.cons_append, List.nil_append, true_or, or_true]
      refine b_lt (by omega) (by omega) (fun cc => absurd cc (by omega)) (fun cc => ?_)
      refine B_Law_simple_114 ?_
      simp only [wp_cons, wp_nil, List.getElem?_cons_zero, List.getElem?_cons_succ, List.set_cons_zero, List.set_cons_succ, s_iload, ldI_s, s_iload_n1, s_if_icmp_ge, p2_s, true_and, and_true, Nat.le_refl, true_implies, forall_const, not_false_eq_true, false_implies, not_true_eq_false, reduceCtorEq, tl_s, tl_n, rf_s, List.cons_append, List.nil_append, true_or, or_true]
      refine b_le (by omega) (by omega) (fun cc => ?_) (fun cc => absurd cc (by omega))
      exact K133 (Or.inl (by omega)) (by omega)
theorem Simple_while {d : Nat} (hd : 3 ≤ d) {S : Stk} {a : Nat} {t : Int} {f : Nat → Int} {h : g_H} {Q : g_Po} (wS : wfS S) (ht : 0 ≤ t ∧ t ≤ 200) (har : ary h a 32 f) (tk : tkn S f) (hO : ∀ (m m0 : Nat) (x7 x8 x9 x10 x11 x12 x13 x14 x15 x16 : Option Value), sinv S t m → sfix S t m (pcs S) → G Law_simple d 0 0 0 0 297 [some (.ref a), some (.int (I (S.1.length : Int))), some (.int (I (sz S.2))), some (.int (I t)), some (.int (I (m : Int))), some (.int (I (pcs S : Int))), some (.int (I (m0 : Int))), x7, x8, x9, x10, x11, x12, x13, x14, x15, x16] [] h Q) : ∀ (j m0 m : Nat) (x7 x8 x9 x10 x11 x12 x13 x14 x15 x16 : Option Value), sinv S t m → m0 ≤ m → (m = m0 → sfix S t m0 (pcs S)) → (m0 ≠ m → 1073741824 ≤ m + j) → G Law_simple d 0 0 0 0 90 [some (.ref a), some (.int (I (S.1.length : Int))), some (.int (I (sz S.2))), some (.int (I t)), some (.int (I (m : Int))), some (.int (I (pcs S : Int))), some (.int (I (m0 : Int))), x7, x8, x9, x10, x11, x12, x13, x14, x15, x16] [] h Q := by
  have d1 : 1 ≤ d := by omega
  have hpc : pcs S ≤ S.1.length := pcs_le
  have w1 := wS.1
  have w2 := wS.2.1
  have w3 := wS.2.2.1
  have har' : h[a]? = some (.inl (0, 32, fun i => I (f i))) := har
  intro j
  induction j with
  | zero =>
    intro m0 m x7 x8 x9 x10 x11 x12 x13 x14 x15 x16 h1 h2 h3 h4
    have hml := h1.lt wS
    by_cases c : m0 = m
    · subst c
      refine B_Law_simple_90 ?_
      simp only [wp_cons, wp_nil, List.getElem?_cons_zero, List.getElem?_cons_succ, List.set_cons_zero, List.set_cons_succ, s_iload, ldI_s, s_if_icmp_eq, p2_s, true_and, and_true, Nat.le_refl, true_implies, forall_const, not_false_eq_true, false_implies, not_true_eq_false, reduceCtorEq, tl_s, tl_n, rf_s, List.cons_append, List.nil_append, true_or, or_true]
      exact hO m0 m0 _ _ _ _ _ _ _ _ _ _ h1 (h3 rfl)
    · have := h4 c; omega
  | succ j ih =>
    intro m0 m x7 x8 x9 x10 x11 x12 x13 x14 x15 x16 h1 h2 h3 h4
    have hml := h1.lt wS
    by_cases c : m0 = m
    · subst c
      refine B_Law_simple_90 ?_
      simp only [wp_cons, wp_nil, List.getElem?_cons_zero, List.getElem?_cons_succ, List.set_cons_zero, List.set_cons_succ, s_iload, ldI_s, s_if_icmp_eq, p2_s, true_and, and_true, Nat.le_refl, true_implies, forall_const, not_false_eq_true, false_implies, not_true_eq_false, reduceCtorEq, tl_s, tl_n, rf_s, List.cons_append, List.nil_append, true_or, or_true]
      exact hO m0 m0 _ _ _ _ _ _ _ _ _ _ h1 (h3 rfl)
    · have h5 := h4 c
      refine B_Law_simple_90 ?_
      simp only [wp_cons, wp_nil, List.getElem?_cons_zero, List.getElem?_cons_succ, List.set_cons_zero, List.set_cons_succ, s_iload, ldI_s, s_if_icmp_eq, p2_s, true_and, and_true, Nat.le_refl, true_implies, forall_const, not_false_eq_true, false_implies, not_true_eq_false, reduceCtorEq, tl_s, tl_n, rf_s, List.cons_append, List.nil_append, true_or, or_true]
      refine b_eq (by omega) (by omega) (fun cc => absurd cc (by omega)) (fun cc => ?_)
      refine B_Law_simple_97 ?_
      simp only [wp_cons, wp_nil, List.getElem?_cons_zero, List.getElem?_cons_succ, List.set_cons_zero, List.set_cons_succ, s_iload, ldI_s, s_istore, p1_s, s1_0, s1_s, kx_i, kx_r, kx_s, kx_n, kx_l, kx_0, s_iconst, true_and, and_true, Nat.le_refl, true_implies, forall_const, not_false_eq_true, false_implies, not_true_eq_false, reduceCtorEq, tl_s, tl_n, rf_s, List.cons_append, List.nil_append, true_or, or_true]
      refine Simple_pass hd wS ht har tk hml (fun m2 p y9 y10 y11 y12 y13 y14 y15 y16 g1 g2 g3 => ?_) (pcs S) 1 0 m _ _ _ _ _ _ _ _ (by omega) ⟨h1, Nat.le_refl _, by omega, by omega, Or.inr h1.1, fun k k1 k2 => by omega, fun k _ => Iff.rfl, fun _ a b q q2 => by have := q.1; omega⟩
      refine B_Law_simple_294 ?_
      simp only [wp_cons, wp_nil, List.getElem?_cons_zero, List.getElem?_cons_succ, List.set_cons_zero, List.set_cons_succ, s_goto, true_and, and_true, Nat.le_refl, true_implies, forall_const, not_false_eq_true, false_implies, not_true_eq_false, reduceCtorEq, tl_s, tl_n, rf_s, List.cons_append, List.nil_append, true_or, or_true]
      exact ih m m2 _ _ _ _ _ _ _ _ _ _ g1 g2 g3 (fun q => by omega)
