/-! ===== the law: changed, its branches ===== -/
theorem set_s {Ss : List Stk} {s : Nat} (T : Stk) (hs : s < Ss.length) : sg (Ss.set s T) s = T := by rw [sg_set _ _ _ hs, if_pos rfl]
theorem sp_move_k {W : Wd} {s : Nat} {dx dy : Int} (hs : s < W.1.1.length) (hx : -999 ≤ dx ∧ dx ≤ 999) (hy : -999 ≤ dy ∧ dy ≤ 999) : (allp (fun i => pg (sg W.1.1 s).1 i / 1000 + dx) (fun i => pg (sg W.1.1 s).1 i % 1000 + dy) (sg W.1.1 s).1.length → sp_move W s dx dy = (mvx dx dy (pg (sg W.1.1 s).1 0), setD W (W.1.1.set s ((sg W.1.1 s).1.map (mvx dx dy), (sg W.1.1 s).2)))) ∧ (¬ allp (fun i => pg (sg W.1.1 s).1 i / 1000 + dx) (fun i => pg (sg W.1.1 s).1 i % 1000 + dy) (sg W.1.1 s).1.length → sp_move W s dx dy = (-3, W)) := by
  unfold sp_move
  rw [if_neg (fun q => q ⟨by omega, by omega⟩), if_neg (fun q => q ⟨hx, hy⟩), tn_i]
  exact ⟨fun h => if_neg (fun q => q h), fun h => if_pos h⟩
theorem sp_turn_k {W : Wd} {s : Nat} {q : Int} (hs : s < W.1.1.length) (hq : 1 ≤ q ∧ q ≤ 3) : (allp (fun i => tnx (pg (sg W.1.1 s).1 0) q (pg (sg W.1.1 s).1 i)) (fun i => tny (pg (sg W.1.1 s).1 0) q (pg (sg W.1.1 s).1 i)) (sg W.1.1 s).1.length → sp_turn W s q = (tnp (pg (sg W.1.1 s).1 0) q (pg (sg W.1.1 s).1 ((sg W.1.1 s).1.length - 1)), setD W (W.1.1.set s ((sg W.1.1 s).1.map (tnp (pg (sg W.1.1 s).1 0) q), (sg W.1.1 s).2)))) ∧ (¬ allp (fun i => tnx (pg (sg W.1.1 s).1 0) q (pg (sg W.1.1 s).1 i)) (fun i => tny (pg (sg W.1.1 s).1 0) q (pg (sg W.1.1 s).1 i)) (sg W.1.1 s).1.length → sp_turn W s q = (-3, W)) := by
  unfold sp_turn
  rw [if_neg (fun q => q ⟨by omega, by omega⟩), if_neg (fun q9 => q9 hq), tn_i]
  exact ⟨fun h => if_neg (fun q => q h), fun h => if_pos h⟩
theorem sp_rev_k {W : Wd} {s : Nat} (hs : s < W.1.1.length) : sp_rev W s = (pg (sg W.1.1 s).1 ((sg W.1.1 s).1.length - 1), setD W (W.1.1.set s ((sg W.1.1 s).1.reverse, (sg W.1.1 s).2))) := by
  unfold sp_rev
  rw [if_neg (fun q => q ⟨by omega, by omega⟩), tn_i]
theorem sp_close_k {W : Wd} {s : Nat} (hs : s < W.1.1.length) : sp_close W s = if (sg W.1.1 s).2 = true ∨ (sg W.1.1 s).1.length < 3 ∨ pg (sg W.1.1 s).1 0 = pg (sg W.1.1 s).1 ((sg W.1.1 s).1.length - 1) then ((-3 : Int), W) else (((sg W.1.1 s).1.length : Int), setD W (W.1.1.set s ((sg W.1.1 s).1, true))) := by
  unfold sp_close
  rw [if_neg (fun q => q ⟨by omega, by omega⟩), tn_i]
theorem sp_split_k {W : Wd} {s k : Nat} (hs : s < W.1.1.length) (hk : k < (sg W.1.1 s).1.length) : sp_split W s k = if (sg W.1.1 s).2 = true then (if 30 ≤ (sg W.1.1 s).1.length then ((-4 : Int), W) else ((W.1.1.length : Int), setD W (W.1.1.set s ((sg W.1.1 s).1.drop k ++ (sg W.1.1 s).1.take (k + 1), false)))) else (if (k : Int) = 0 ∨ (k : Int) = (sg W.1.1 s).1.length - 1 then ((-3 : Int), W) else if 10 ≤ W.1.1.length then ((-4 : Int), W) else ((W.1.1.length : Int) + 1, setD W (W.1.1.set s ((sg W.1.1 s).1.take (k + 1), false) ++ [((sg W.1.1 s).1.drop k, false)]))) := by
  unfold sp_split
  rw [if_neg, tn_i, tn_i]
  rw [tn_i]
  exact fun q => q ⟨⟨by omega, by omega⟩, by omega, by omega⟩
theorem sp_rem_k {W : Wd} {s : Nat} (hs : s < W.1.1.length) : sp_rem W s = ((W.1.1.length : Int) - 1, setD W (W.1.1.eraseIdx s)) := by
  unfold sp_rem
  rw [if_neg (fun q => q ⟨by omega, by omega⟩), tn_i]
theorem sp_top_k {W : Wd} {s : Nat} (hs : s < W.1.1.length) : sp_top W s = ((W.1.1.length : Int) - 1, setD W (W.1.1.eraseIdx s ++ [sg W.1.1 s])) := by
  unfold sp_top
  rw [if_neg (fun q => q ⟨by omega, by omega⟩), tn_i]
theorem Changed_A {d : Nat} (hd : 10 ≤ d) {W : Wd} {a b s : Nat} {x : Int32} {f g : Nat → Int} {h : g_H} {Q : g_Po} (w : wfW W) (hs : s < W.1.1.length) (hp : pens h 0 W) (ha : 208 ≤ a) (hb : 208 ≤ b) (hab : a ≠ b) (har : ary h a 32 f) (hbr : ary h b 32 g) (tk : tkn (sg W.1.1 s) f) (hQ : ∀ h' W', wfW W' → W'.1.2 = W.1.2 → pens h' 0 W' → b < h'.length → Q (some (.int (I 1))) h') {kd : Int} (hkd : kd = 0 ∨ kd = 1) : G Law_changed d 2 64 2 64 62 [some (.ref 0), some (.int (I kd)), some (.int x), some (.int (I (s : Int))), some (.ref a), some (.ref b), some (.int (I ((sg W.1.1 s).1.length : Int))), some (.int (I (sz (sg W.1.1 s).2))), some (.int (I (W.1.1.length : Int))), none, none, none, none, none, none, none, none, none] [] h Q := by
  have d1 : 1 ≤ d := by omega
  have wl : W.1.1.length ≤ 10 := w.1.1.1
  have wS := w.1.1.2 s hs
  have w1 := wS.1
  have w2 := wS.2.1
  have w3 := wS.2.2.1
  obtain ⟨fs, hc⟩ := hp.at6
  have har' : h[a]? = some (.inl (0, 32, fun i => I (f i))) := har
  have en1 : ((sg W.1.1 s).1.length : Int) - 1 = (((sg W.1.1 s).1.length - 1 : Nat) : Int) := by omega
  refine B_Law_changed_62 ?_
  simp only [wp_cons, wp_nil, List.getElem?_cons_zero, List.getElem?_cons_succ, List.set_cons_zero, List.set_cons_succ, s_iload_n2, ldI_s, s_iconst, s_ishr, p2_s, s_bipush, s_invokestatic, rc_s, ob_s, List.drop_succ_cons, List.drop_zero, List.take_succ_cons, List.take_zero, List.reverse_cons, List.reverse_nil, List.nil_append, List.cons_append, List.length_cons, List.length_nil, Nat.reduceEqDiff, eq_self, reduceIte, p1_s, l1_s, d1, Int.reduceToNat, Nat.reduceAdd, Nat.reduceLeDiff, true_and, and_true, Nat.le_refl, true_implies, forall_const, not_false_eq_true, false_implies, not_true_eq_false, reduceCtorEq, tl_s, tl_n, rf_s, true_or, or_true, hc]
  refine Law_low_c (by omega) (fun r1 h1 h2 => ?_)
  refine B_Law_changed_70 ?_
  simp only [wp_cons, wp_nil, List.getElem?_cons_zero, List.getElem?_cons_succ, List.set_cons_zero, List.set_cons_succ, s_bipush, s_isub, p2_s, I_sub, s_istore, p1_s, s1_0, s1_s, kx_i, kx_r, kx_s, kx_n, kx_l, kx_0, s_iload_n2, ldI_s, s_ishr, s_invokestatic, rc_s, ob_s, List.drop_succ_cons, List.drop_zero, List.take_succ_cons, List.take_zero, List.reverse_cons, List.reverse_nil, List.nil_append, List.cons_append, List.length_cons, List.length_nil, Nat.reduceEqDiff, eq_self, reduceIte, l1_s, d1, Int.reduceToNat, Nat.reduceAdd, Nat.reduceLeDiff, true_and, and_true, Nat.le_refl, true_implies, forall_const, not_false_eq_true, false_implies, not_true_eq_false, reduceCtorEq, tl_s, tl_n, rf_s, true_or, or_true, hc]
  refine Law_low_c (by omega) (fun r2 h3 h4 => ?_)
  refine B_Law_changed_84 ?_
  simp only [wp_cons, wp_nil, List.getElem?_cons_zero, List.getElem?_cons_succ, List.set_cons_zero, List.set_cons_succ, s_bipush, s_isub, p2_s, I_sub, s_istore, p1_s, s1_0, s1_s, kx_i, kx_r, kx_s, kx_n, kx_l, kx_0, s_iconst, s_iload_n2, ldI_s, s_ishr, s_invokestatic, rc_s, ob_s, List.drop_succ_cons, List.drop_zero, List.take_succ_cons, List.take_zero, List.reverse_cons, List.reverse_nil, List.nil_append, List.cons_append, List.length_cons, List.length_nil, Nat.reduceEqDiff, eq_self, reduceIte, l1_s, d1, Int.reduceToNat, Nat.reduceAdd, Nat.reduceLeDiff, true_and, and_true, Nat.le_refl, true_implies, forall_const, not_false_eq_true, false_implies, not_true_eq_false, reduceCtorEq, tl_s, tl_n, rf_s, true_or, or_true, hc]
  refine Law_low_c (by omega) (fun r3 h5 h6 => ?_)
  refine B_Law_changed_98 ?_
  simp only [wp_cons, wp_nil, List.getElem?_cons_zero, List.getElem?_cons_succ, List.set_cons_zero, List.set_cons_succ, s_iadd, p2_s, I_add, s_istore, p1_s, s1_0, s1_s, kx_i, kx_r, kx_s, kx_n, kx_l, kx_0, s_iconst, true_and, and_true, Nat.le_refl, true_implies, forall_const, not_false_eq_true, false_implies, not_true_eq_false, reduceCtorEq, tl_s, tl_n, rf_s, List.cons_append, List.nil_append, true_or, or_true, hc]
  rcases hkd with hkd | hkd
  · subst hkd
    refine Changed_move hd wS ha hb hab tk rfl (by omega) (by omega) (fun h4 g4 z y14 y15 y16 y17 a4 b4 p4 g9 hz => ?_) (sg W.1.1 s).1.length 0 h g 1 none none none none (by omega) har hbr hp (fun i hi => by omega) (Or.inl ⟨rfl, fun i hi => by omega⟩)
    obtain ⟨fs4, hc4⟩ := p4.at6
    have b4' : h4[b]? = some (.inl (0, 32, fun i => I (g4 i))) := b4
    have KK := sp_move_k hs (show -999 ≤ r1 - 30 ∧ r1 - 30 ≤ 999 by omega) (show -999 ≤ r2 - 30 ∧ r2 - 30 ≤ 999 by omega)
    have g0 : g4 0 = mvx (r1 - 30) (r2 - 30) (pg (sg W.1.1 s).1 0) := g9 _ (by omega)
    refine B_Law_changed_324 ?_
    simp only [wp_cons, wp_nil, List.getElem?_cons_zero, List.getElem?_cons_succ, List.set_cons_zero, List.set_cons_succ, s_iload_n1, ldI_s, s_ifCond_ne, p1_s, true_and, and_true, Nat.le_refl, true_implies, forall_const, not_false_eq_true, false_implies, not_true_eq_false, reduceCtorEq, tl_s, tl_n, rf_s, List.cons_append, List.nil_append, true_or, or_true, hc4]
    refine B_Law_changed_328 ?_
    simp only [wp_cons, wp_nil, List.getElem?_cons_zero, List.getElem?_cons_succ, List.set_cons_zero, List.set_cons_succ, s_aload_n0, ldA_r, ldA_n, ldA_s, s_iload_n3, ldI_s, s_iload, s_invokevirtual, rc_s, ob_s, List.drop_succ_cons, List.drop_zero, List.take_succ_cons, List.take_zero, List.reverse_cons, List.reverse_nil, List.nil_append, List.cons_append, List.length_cons, List.length_nil, d1, Int.reduceToNat, Nat.reduceAdd, Nat.reduceLeDiff, true_and, and_true, Nat.le_refl, true_implies, forall_const, not_false_eq_true, false_implies, not_true_eq_false, reduceCtorEq, tl_s, tl_n, rf_s, true_or, or_true, hc4]
    refine Pens_move_c (by omega) w p4 (by omega) (by omega) (by omega) (fun h5 c5 p5 => ?_)
    have w5 := kp_move w (s : Int) (r1 - 30) (r2 - 30)
    have a5 := a4.un c5.un ha (show a ≠ 0 by omega)
    have b5 := b4.un c5.un hb (show b ≠ 0 by omega)
    have b5' : h5[b]? = some (.inl (0, 32, fun i => I (g4 i))) := b5
    have l5 := (List.getElem?_eq_some_iff.mp b5).1
    rcases hz with ⟨rfl, hz⟩ | ⟨rfl, hz⟩
    · rw [KK.1 hz] at p5 w5 ⊢
      have es := set_s ((sg W.1.1 s).1.map (mvx (r1 - 30) (r2 - 30)), (sg W.1.1 s).2) hs
      refine B_Law_changed_337 ?_
      simp only [wp_cons, wp_nil, List.getElem?_cons_zero, List.getElem?_cons_succ, List.set_cons_zero, List.set_cons_succ, s_goto, true_and, and_true, Nat.le_refl, true_implies, forall_const, not_false_eq_true, false_implies, not_true_eq_false, reduceCtorEq, tl_s, tl_n, rf_s, List.cons_append, List.nil_append, true_or, or_true, b5', ex_ie (x := 0) (i := 0) (n := 32) rfl (by omega), g0]
      refine B_Law_changed_347 ?_
      simp only [wp_cons, wp_nil, List.getElem?_cons_zero, List.getElem?_cons_succ, List.set_cons_zero, List.set_cons_succ, s_istore, p1_s, s1_0, s1_s, kx_i, kx_r, kx_s, kx_n, kx_l, kx_0, s_iload, ldI_s, s_ifCond_ne, true_and, and_true, Nat.le_refl, true_implies, forall_const, not_false_eq_true, false_implies, not_true_eq_false, reduceCtorEq, tl_s, tl_n, rf_s, List.cons_append, List.nil_append, true_or, or_true, b5', ex_ie (x := 0) (i := 0) (n := 32) rfl (by omega), g0]
      refine b_ne (by omega) (by omega) (fun cc => ?_) (fun cc => absurd cc (by omega))
      refine B_Law_changed_361 ?_
      simp only [wp_cons, wp_nil, List.getElem?_cons_zero, List.getElem?_cons_succ, List.set_cons_zero, List.set_cons_succ, s_iload_n1, ldI_s, s_ifCond_ne, p1_s, true_and, and_true, Nat.le_refl, true_implies, forall_const, not_false_eq_true, false_implies, not_true_eq_false, reduceCtorEq, tl_s, tl_n, rf_s, List.cons_append, List.nil_append, true_or, or_true, b5', ex_ie (x := 0) (i := 0) (n := 32) rfl (by omega), g0]
      refine B_Law_changed_365 ?_
      simp only [wp_cons, wp_nil, List.getElem?_cons_zero, List.getElem?_cons_succ, List.set_cons_zero, List.set_cons_succ, s_aload, ldA_r, ldA_n, ldA_s, s_iconst, s_iaload, iR_s, ia_s, s_goto, true_and, and_true, Nat.le_refl, true_implies, forall_const, not_false_eq_true, false_implies, not_true_eq_false, reduceCtorEq, tl_s, tl_n, rf_s, List.cons_append, List.nil_append, true_or, or_true, b5', ex_ie (x := 0) (i := 0) (n := 32) rfl (by omega), g0]
      refine B_Law_changed_379 ?_
      simp only [wp_cons, wp_nil, List.getElem?_cons_zero, List.getElem?_cons_succ, List.set_cons_zero, List.set_cons_succ, s_if_icmp_eq, p2_s, true_and, and_true, Nat.le_refl, true_implies, forall_const, not_false_eq_true, false_implies, not_true_eq_false, reduceCtorEq, tl_s, tl_n, rf_s, List.cons_append, List.nil_append, true_or, or_true, b5', ex_ie (x := 0) (i := 0) (n := 32) rfl (by omega), g0]
      refine B_Law_changed_384 ?_
      simp only [wp_cons, wp_nil, List.getElem?_cons_zero, List.getElem?_cons_succ, List.set_cons_zero, List.set_cons_succ, s_iconst, s_istore, p1_s, s1_0, s1_s, kx_i, kx_r, kx_s, kx_n, kx_l, kx_0, true_and, and_true, Nat.le_refl, true_implies, forall_const, not_false_eq_true, false_implies, not_true_eq_false, reduceCtorEq, tl_s, tl_n, rf_s, List.cons_append, List.nil_append, true_or, or_true, b5', ex_ie (x := 0) (i := 0) (n := 32) rfl (by omega), g0]
      exact Changed_pts hd wS w5 p5 (by show s < (W.1.1.set s _).length; rw [List.length_set]; exact hs) (by show (sg (W.1.1.set s _) s).1.length = _; rw [es]; exact List.length_map _) a5 b5 tk (Or.inl ⟨rfl, fun k hk => by show pg (sg (W.1.1.set s _) s).1 k = _; rw [es]; show pg ((sg W.1.1 s).1.map _) k = _; rw [pg_map _ _ hk]; exact (g9 k hk).symm⟩) (hQ h5 _ w5 rfl p5 l5) (sg W.1.1 s).1.length 0 (by omega)
    · rw [KK.2 hz] at p5 w5 ⊢
      refine B_Law_changed_337 ?_
      simp only [wp_cons, wp_nil, List.getElem?_cons_zero, List.getElem?_cons_succ, List.set_cons_zero, List.set_cons_succ, s_goto, true_and, and_true, Nat.le_refl, true_implies, forall_const, not_false_eq_true, false_implies, not_true_eq_false, reduceCtorEq, tl_s, tl_n, rf_s, List.cons_append, List.nil_append, true_or, or_true, hc4]
      refine B_Law_changed_347 ?_
      simp only [wp_cons, wp_nil, List.getElem?_cons_zero, List.getElem?_cons_succ, List.set_cons_zero, List.set_cons_succ, s_istore, p1_s, s1_0, s1_s, kx_i, kx_r, kx_s, kx_n, kx_l, kx_0, s_iload, ldI_s, s_ifCond_ne, true_and, and_true, Nat.le_refl, true_implies, forall_const, not_false_eq_true, false_implies, not_true_eq_false, reduceCtorEq, tl_s, tl_n, rf_s, List.cons_append, List.nil_append, true_or, or_true, hc4]
      refine B_Law_changed_356 ?_
      simp only [wp_cons, wp_nil, List.getElem?_cons_zero, List.getElem?_cons_succ, List.set_cons_zero, List.set_cons_succ, s_bipush, s_goto, true_and, and_true, Nat.le_refl, true_implies, forall_const, not_false_eq_true, false_implies, not_true_eq_false, reduceCtorEq, tl_s, tl_n, rf_s, List.cons_append, List.nil_append, true_or, or_true, hc4]
      refine B_Law_changed_379 ?_
      simp only [wp_cons, wp_nil, List.getElem?_cons_zero, List.getElem?_cons_succ, List.set_cons_zero, List.set_cons_succ, s_if_icmp_eq, p2_s, true_and, and_true, Nat.le_refl, true_implies, forall_const, not_false_eq_true, false_implies, not_true_eq_false, reduceCtorEq, tl_s, tl_n, rf_s, List.cons_append, List.nil_append, true_or, or_true, hc4]
      refine B_Law_changed_384 ?_
      simp only [wp_cons, wp_nil, List.getElem?_cons_zero, List.getElem?_cons_succ, List.set_cons_zero, List.set_cons_succ, s_iconst, s_istore, p1_s, s1_0, s1_s, kx_i, kx_r, kx_s, kx_n, kx_l, kx_0, true_and, and_true, Nat.le_refl, true_implies, forall_const, not_false_eq_true, false_implies, not_true_eq_false, reduceCtorEq, tl_s, tl_n, rf_s, List.cons_append, List.nil_append, true_or, or_true, hc4]
      exact Changed_pts hd wS w5 p5 hs rfl a5 b5 tk (Or.inr ⟨rfl, fun k hk => rfl⟩) (hQ h5 _ w5 rfl p5 l5) (sg W.1.1 s).1.length 0 (by omega)
  · subst hkd
    refine Changed_turn hd wS ha hb hab tk rfl (by omega) (fun h4 g4 z y14 y15 y16 y17 a4 b4 p4 g9 hz => ?_) (sg W.1.1 s).1.length 0 h g 1 none none none none (by omega) har hbr hp (fun i hi => by omega) (Or.inl ⟨rfl, fun i hi => by omega⟩)
    obtain ⟨fs4, hc4⟩ := p4.at6
    have b4' : h4[b]? = some (.inl (0, 32, fun i => I (g4 i))) := b4
    have KK := sp_turn_k hs (show 1 ≤ 1 + r3 ∧ 1 + r3 ≤ 3 by omega)
    have g0 : g4 ((sg W.1.1 s).1.length - 1) = tnp (pg (sg W.1.1 s).1 0) (1 + r3) (pg (sg W.1.1 s).1 ((sg W.1.1 s).1.length - 1)) := g9 _ (by omega)
    refine B_Law_changed_324 ?_
    simp only [wp_cons, wp_nil, List.getElem?_cons_zero, List.getElem?_cons_succ, List.set_cons_zero, List.set_cons_succ, s_iload_n1, ldI_s, s_ifCond_ne, p1_s, true_and, and_true, Nat.le_refl, true_implies, forall_const, not_false_eq_true, false_implies, not_true_eq_false, reduceCtorEq, tl_s, tl_n, rf_s, List.cons_append, List.nil_append, true_or, or_true, hc4]
    refine b_ne (by omega) (by omega) (fun cc => ?_) (fun cc => absurd cc (by omega))
    refine B_Law_changed_340 ?_
    simp only [wp_cons, wp_nil, List.getElem?_cons_zero, List.getElem?_cons_succ, List.set_cons_zero, List.set_cons_succ, s_aload_n0, ldA_r, ldA_n, ldA_s, s_iload_n3, ldI_s, s_iload, s_invokevirtual, rc_s, ob_s, List.drop_succ_cons, List.drop_zero, List.take_succ_cons, List.take_zero, List.reverse_cons, List.reverse_nil, List.nil_append, List.cons_append, List.length_cons, List.length_nil, d1, Int.reduceToNat, Nat.reduceAdd, Nat.reduceLeDiff, true_and, and_true, Nat.le_refl, true_implies, forall_const, not_false_eq_true, false_implies, not_true_eq_false, reduceCtorEq, tl_s, tl_n, rf_s, true_or, or_true, hc4]
    refine Pens_turn_c (by omega) w p4 (by omega) (by omega) (fun h5 c5 p5 => ?_)
    have w5 := kp_turn w (s : Int) (1 + r3)
    have a5 := a4.un c5.un ha (show a ≠ 0 by omega)
    have b5 := b4.un c5.un hb (show b ≠ 0 by omega)
    have b5' : h5[b]? = some (.inl (0, 32, fun i => I (g4 i))) := b5
    have l5 := (List.getElem?_eq_some_iff.mp b5).1
    rcases hz with ⟨rfl, hz⟩ | ⟨rfl, hz⟩
    · rw [KK.1 hz] at p5 w5 ⊢
      have es := set_s ((sg W.1.1 s).1.map (tnp (pg (sg W.1.1 s).1 0) (1 + r3)), (sg W.1.1 s).2) hs
      refine B_Law_changed_347 ?_
      simp only [wp_cons, wp_nil, List.getElem?_cons_zero, List.getElem?_cons_succ, List.set_cons_zero, List.set_cons_succ, s_istore, p1_s, s1_0, s1_s, kx_i, kx_r, kx_s, kx_n, kx_l, kx_0, s_iload, ldI_s, s_ifCond_ne, true_and, and_true, Nat.le_refl, true_implies, forall_const, not_false_eq_true, false_implies, not_true_eq_false, reduceCtorEq, tl_s, tl_n, rf_s, List.cons_append, List.nil_append, true_or, or_true, b5', en1, ex_ix (i := (sg W.1.1 s).1.length - 1) (n := 32) (by omega), g0]
      refine b_ne (by omega) (by omega) (fun cc => ?_) (fun cc => absurd cc (by omega))
      refine B_Law_changed_361 ?_
      simp only [wp_cons, wp_nil, List.getElem?_cons_zero, List.getElem?_cons_succ, List.set_cons_zero, List.set_cons_succ, s_iload_n1, ldI_s, s_ifCond_ne, p1_s, true_and, and_true, Nat.le_refl, true_implies, forall_const, not_false_eq_true, false_implies, not_true_eq_false, reduceCtorEq, tl_s, tl_n, rf_s, List.cons_append, List.nil_append, true_or, or_true, b5', en1, ex_ix (i := (sg W.1.1 s).1.length - 1) (n := 32) (by omega), g0]
      refine b_ne (by omega) (by omega) (fun cc => ?_) (fun cc => absurd cc (by omega))
      refine B_Law_changed_372 ?_
      simp only [wp_cons, wp_nil, List.getElem?_cons_zero, List.getElem?_cons_succ, List.set_cons_zero, List.set_cons_succ, s_aload, ldA_r, ldA_n, ldA_s, s_iload, ldI_s, s_iconst, s_isub, p2_s, I_sub, s_iaload, iR_s, ia_s, true_and, and_true, Nat.le_refl, true_implies, forall_const, not_false_eq_true, false_implies, not_true_eq_false, reduceCtorEq, tl_s, tl_n, rf_s, List.cons_append, List.nil_append, true_or, or_true, b5', en1, ex_ix (i := (sg W.1.1 s).1.length - 1) (n := 32) (by omega), g0]
      refine B_Law_changed_379 ?_
      simp only [wp_cons, wp_nil, List.getElem?_cons_zero, List.getElem?_cons_succ, List.set_cons_zero, List.set_cons_succ, s_if_icmp_eq, p2_s, true_and, and_true, Nat.le_refl, true_implies, forall_const, not_false_eq_true, false_implies, not_true_eq_false, reduceCtorEq, tl_s, tl_n, rf_s, List.cons_append, List.nil_append, true_or, or_true, b5', en1, ex_ix (i := (sg W.1.1 s).1.length - 1) (n := 32) (by omega), g0]
      refine B_Law_changed_384 ?_
      simp only [wp_cons, wp_nil, List.getElem?_cons_zero, List.getElem?_cons_succ, List.set_cons_zero, List.set_cons_succ, s_iconst, s_istore, p1_s, s1_0, s1_s, kx_i, kx_r, kx_s, kx_n, kx_l, kx_0, true_and, and_true, Nat.le_refl, true_implies, forall_const, not_false_eq_true, false_implies, not_true_eq_false, reduceCtorEq, tl_s, tl_n, rf_s, List.cons_append, List.nil_append, true_or, or_true, b5', en1, ex_ix (i := (sg W.1.1 s).1.length - 1) (n := 32) (by omega), g0]
      exact Changed_pts hd wS w5 p5 (by show s < (W.1.1.set s _).length; rw [List.length_set]; exact hs) (by show (sg (W.1.1.set s _) s).1.length = _; rw [es]; exact List.length_map _) a5 b5 tk (Or.inl ⟨rfl, fun k hk => by show pg (sg (W.1.1.set s _) s).1 k = _; rw [es]; show pg ((sg W.1.1 s).1.map _) k = _; rw [pg_map _ _ hk]; exact (g9 k hk).symm⟩) (hQ h5 _ w5 rfl p5 l5) (sg W.1.1 s).1.length 0 (by omega)
    · rw [KK.2 hz] at p5 w5 ⊢
      refine B_Law_changed_347 ?_
      simp only [wp_cons, wp_nil, List.getElem?_cons_zero, List.getElem?_cons_succ, List.set_cons_zero, List.set_cons_succ, s_istore, p1_s, s1_0, s1_s, kx_i, kx_r, kx_s, kx_n, kx_l, kx_0, s_iload, ldI_s, s_ifCond_ne, true_and, and_true, Nat.le_refl, true_implies, forall_const, not_false_eq_true, false_implies, not_true_eq_false, reduceCtorEq, tl_s, tl_n, rf_s, List.cons_append, List.nil_append, true_or, or_true, hc4]
      refine B_Law_changed_356 ?_
      simp only [wp_cons, wp_nil, List.getElem?_cons_zero, List.getElem?_cons_succ, List.set_cons_zero, List.set_cons_succ, s_bipush, s_goto, true_and, and_true, Nat.le_refl, true_implies, forall_const, not_false_eq_true, false_implies, not_true_eq_false, reduceCtorEq, tl_s, tl_n, rf_s, List.cons_append, List.nil_append, true_or, or_true, hc4]
      refine B_Law_changed_379 ?_
      simp only [wp_cons, wp_nil, List.getElem?_cons_zero, List.getElem?_cons_succ, List.set_cons_zero, List.set_cons_succ, s_if_icmp_eq, p2_s, true_and, and_true, Nat.le_refl, true_implies, forall_const, not_false_eq_true, false_implies, not_true_eq_false, reduceCtorEq, tl_s, tl_n, rf_s, List.cons_append, List.nil_append, true_or, or_true, hc4]
      refine B_Law_changed_384 ?_
      simp only [wp_cons, wp_nil, List.getElem?_cons_zero, List.getElem?_cons_succ, List.set_cons_zero, List.set_cons_succ, s_iconst, s_istore, p1_s, s1_0, s1_s, kx_i, kx_r, kx_s, kx_n, kx_l, kx_0, true_and, and_true, Nat.le_refl, true_implies, forall_const, not_false_eq_true, false_implies, not_true_eq_false, reduceCtorEq, tl_s, tl_n, rf_s, List.cons_append, List.nil_append, true_or, or_true, hc4]
      exact Changed_pts hd wS w5 p5 hs rfl a5 b5 tk (Or.inr ⟨rfl, fun k hk => rfl⟩) (hQ h5 _ w5 rfl p5 l5) (sg W.1.1 s).1.length 0 (by omega)
theorem Changed_B {d : Nat} (hd : 10 ≤ d) {W : Wd} {a b s : Nat} {x : Int32} {f g : Nat → Int} {h : g_H} {Q : g_Po} (w : wfW W) (hs : s < W.1.1.length) (hp : pens h 0 W) (ha : 208 ≤ a) (hb : 208 ≤ b) (hab : a ≠ b) (har : ary h a 32 f) (hbr : ary h b 32 g) (tk : tkn (sg W.1.1 s) f) (hQ : ∀ h' W', wfW W' → W'.1.2 = W.1.2 → pens h' 0 W' → b < h'.length → Q (some (.int (I 1))) h') : G Law_changed d 2 64 2 64 433 [some (.ref 0), some (.int (I 2)), some (.int x), some (.int (I (s : Int))), some (.ref a), some (.ref b), some (.int (I ((sg W.1.1 s).1.length : Int))), some (.int (I (sz (sg W.1.1 s).2))), some (.int (I (W.1.1.length : Int))), none, none, none, none, none, none, none, none, none] [] h Q := by
  have d1 : 1 ≤ d := by omega
  have wl : W.1.1.length ≤ 10 := w.1.1.1
  have wS := w.1.1.2 s hs
  have w1 := wS.1
  have w2 := wS.2.1
  have w3 := wS.2.2.1
  obtain ⟨fs, hc⟩ := hp.at6
  have har' : h[a]? = some (.inl (0, 32, fun i => I (f i))) := har
  have en1 : ((sg W.1.1 s).1.length : Int) - 1 = (((sg W.1.1 s).1.length - 1 : Nat) : Int) := by omega
  refine B_Law_changed_433 ?_
  simp only [wp_cons, wp_nil, List.getElem?_cons_zero, List.getElem?_cons_succ, List.set_cons_zero, List.set_cons_succ, s_iload_n1, ldI_s, s_iconst, s_if_icmp_ne, p2_s, true_and, and_true, Nat.le_refl, true_implies, forall_const, not_false_eq_true, false_implies, not_true_eq_false, reduceCtorEq, tl_s, tl_n, rf_s, List.cons_append, List.nil_append, true_or, or_true, hc]
  refine B_Law_changed_438 ?_
  simp only [wp_cons, wp_nil, List.getElem?_cons_zero, List.getElem?_cons_succ, List.set_cons_zero, List.set_cons_succ, s_aload_n0, ldA_r, ldA_n, ldA_s, s_iload_n3, ldI_s, s_invokevirtual, rc_s, ob_s, List.drop_succ_cons, List.drop_zero, List.take_succ_cons, List.take_zero, List.reverse_cons, List.reverse_nil, List.nil_append, List.cons_append, List.length_cons, List.length_nil, d1, Int.reduceToNat, Nat.reduceAdd, Nat.reduceLeDiff, true_and, and_true, Nat.le_refl, true_implies, forall_const, not_false_eq_true, false_implies, not_true_eq_false, reduceCtorEq, tl_s, tl_n, rf_s, true_or, or_true, hc]
  refine Pens_rev_c (by omega) w hp (by omega) (fun h5 c5 p5 => ?_)
  have w5 := kp_rev w (s : Int)
  rw [sp_rev_k hs] at p5 w5 ⊢
  have a5 := har.un c5.un ha (show a ≠ 0 by omega)
  have b5 := hbr.un c5.un hb (show b ≠ 0 by omega)
  have a5' : h5[a]? = some (.inl (0, 32, fun i => I (f i))) := a5
  have l5 := (List.getElem?_eq_some_iff.mp b5).1
  obtain ⟨fs5, hc5⟩ := p5.at6
  have es := set_s ((sg W.1.1 s).1.reverse, (sg W.1.1 s).2) hs
  have hs5 : s < (setD W (W.1.1.set s ((sg W.1.1 s).1.reverse, (sg W.1.1 s).2))).1.1.length := by
    show s < (W.1.1.set s _).length
    rw [List.length_set]; exact hs
  have loop : ∀ (m k : Nat), k + m = (sg W.1.1 s).1.length → G Law_changed d 2 64 2 64 458 [some (.ref 0), some (.int (I 2)), some (.int x), some (.int (I (s : Int))), some (.ref a), some (.ref b), some (.int (I ((sg W.1.1 s).1.length : Int))), some (.int (I (sz (sg W.1.1 s).2))), some (.int (I (W.1.1.length : Int))), some (.int (I (k : Int))), none, none, none, none, none, none, none, none] [] h5 Q := by
    intro m
    induction m with
    | zero =>
      intro k hk
      obtain rfl : k = (sg W.1.1 s).1.length := by omega
      refine B_Law_changed_458 ?_
      simp only [wp_cons, wp_nil, List.getElem?_cons_zero, List.getElem?_cons_succ, List.set_cons_zero, List.set_cons_succ, s_iload, ldI_s, s_if_icmp_ge, p2_s, true_and, and_true, Nat.le_refl, true_implies, forall_const, not_false_eq_true, false_implies, not_true_eq_false, reduceCtorEq, tl_s, tl_n, rf_s, List.cons_append, List.nil_append, true_or, or_true, hc]
      refine b_le (by omega) (by omega) (fun cc => ?_) (fun cc => absurd cc (by omega))
      refine B_Law_changed_493 ?_
      simp only [wp_cons, wp_nil, List.getElem?_cons_zero, List.getElem?_cons_succ, List.set_cons_zero, List.set_cons_succ, s_goto, true_and, and_true, Nat.le_refl, true_implies, forall_const, not_false_eq_true, false_implies, not_true_eq_false, reduceCtorEq, tl_s, tl_n, rf_s, List.cons_append, List.nil_append, true_or, or_true, hc]
      refine B_Law_changed_1031 ?_
      simp only [wp_cons, wp_nil, List.getElem?_cons_zero, List.getElem?_cons_succ, List.set_cons_zero, List.set_cons_succ, s_iconst, s_ireturn, p1_s, rI_i, rI_z, rI_c, z_01, z_11, rt_Law_changed, true_and, and_true, Nat.le_refl, true_implies, forall_const, not_false_eq_true, false_implies, not_true_eq_false, reduceCtorEq, tl_s, tl_n, rf_s, List.cons_append, List.nil_append, true_or, or_true, hc]
      exact hQ h5 _ w5 rfl p5 l5
    | succ m ih =>
      intro k hk
      have em : (k : Int) + 1 = ((k + 1 : Nat) : Int) := by omega
      have en2 : ((((sg W.1.1 s).1.length - 1 : Nat) : Int)) - (k : Int) = (((sg W.1.1 s).1.length - 1 - k : Nat) : Int) := by omega
      have nx := ih (k + 1) (by omega)
      refine B_Law_changed_458 ?_
      simp only [wp_cons, wp_nil, List.getElem?_cons_zero, List.getElem?_cons_succ, List.set_cons_zero, List.set_cons_succ, s_iload, ldI_s, s_if_icmp_ge, p2_s, true_and, and_true, Nat.le_refl, true_implies, forall_const, not_false_eq_true, false_implies, not_true_eq_false, reduceCtorEq, tl_s, tl_n, rf_s, List.cons_append, List.nil_append, true_or, or_true, hc5]
      refine b_le (by omega) (by omega) (fun cc => absurd cc (by omega)) (fun cc => ?_)
      refine B_Law_changed_465 ?_
      simp only [wp_cons, wp_nil, List.getElem?_cons_zero, List.getElem?_cons_succ, List.set_cons_zero, List.set_cons_succ, s_aload_n0, ldA_r, ldA_n, ldA_s, s_iload_n3, ldI_s, s_iload, s_invokevirtual, rc_s, ob_s, List.drop_succ_cons, List.drop_zero, List.take_succ_cons, List.take_zero, List.reverse_cons, List.reverse_nil, List.nil_append, List.cons_append, List.length_cons, List.length_nil, d1, Int.reduceToNat, Nat.reduceAdd, Nat.reduceLeDiff, true_and, and_true, Nat.le_refl, true_implies, forall_const, not_false_eq_true, false_implies, not_true_eq_false, reduceCtorEq, tl_s, tl_n, rf_s, true_or, or_true, hc5]
      refine Pens_point_c (by omega) w5 p5 (by omega) (by omega) ?_
      rw [sp_point_k hs5 (by show k < (sg (W.1.1.set s _) s).1.length; rw [es]; show k < (List.reverse _).length; rw [List.length_reverse]; omega)]
      rw [show pg (sg (setD W (W.1.1.set s ((sg W.1.1 s).1.reverse, (sg W.1.1 s).2))).1.1 s).1 k = pg (sg W.1.1 s).1 ((sg W.1.1 s).1.length - 1 - k) by show pg (sg (W.1.1.set s _) s).1 k = _; rw [es]; exact pg_rev _ (by omega)]
      refine B_Law_changed_472 ?_
      simp only [wp_cons, wp_nil, List.getElem?_cons_zero, List.getElem?_cons_succ, List.set_cons_zero, List.set_cons_succ, s_aload, ldA_r, ldA_n, ldA_s, s_iload, ldI_s, s_iconst, s_isub, p2_s, I_sub, s_iaload, iR_s, ia_s, s_if_icmp_eq, true_and, and_true, Nat.le_refl, true_implies, forall_const, not_false_eq_true, false_implies, not_true_eq_false, reduceCtorEq, tl_s, tl_n, rf_s, List.cons_append, List.nil_append, true_or, or_true, a5', en1, en2, ex_ix (i := (sg W.1.1 s).1.length - 1 - k) (n := 32) (by omega), tk.k (k := (sg W.1.1 s).1.length - 1 - k) (by omega), em]
      refine B_Law_changed_487 ?_
      simp only [wp_cons, wp_nil, List.getElem?_cons_zero, List.getElem?_cons_succ, List.set_cons_zero, List.set_cons_succ, s_iinc, ldI_s, s1_0, s1_s, kx_i, kx_r, kx_s, kx_n, kx_l, kx_0, I_add, s_goto, true_and, and_true, Nat.le_refl, true_implies, forall_const, not_false_eq_true, false_implies, not_true_eq_false, reduceCtorEq, tl_s, tl_n, rf_s, List.cons_append, List.nil_append, true_or, or_true, a5', en1, en2, ex_ix (i := (sg W.1.1 s).1.length - 1 - k) (n := 32) (by omega), tk.k (k := (sg W.1.1 s).1.length - 1 - k) (by omega), em]
      exact nx
  refine B_Law_changed_443 ?_
  simp only [wp_cons, wp_nil, List.getElem?_cons_zero, List.getElem?_cons_succ, List.set_cons_zero, List.set_cons_succ, s_aload, ldA_r, ldA_n, ldA_s, s_iload, ldI_s, s_iconst, s_isub, p2_s, I_sub, s_iaload, iR_s, ia_s, s_if_icmp_eq, true_and, and_true, Nat.le_refl, true_implies, forall_const, not_false_eq_true, false_implies, not_true_eq_false, reduceCtorEq, tl_s, tl_n, rf_s, List.cons_append, List.nil_append, true_or, or_true, a5', en1, ex_ix (i := (sg W.1.1 s).1.length - 1) (n := 32) (by omega), tk.k (k := (sg W.1.1 s).1.length - 1) (by omega)]
  refine B_Law_changed_455 ?_
  simp only [wp_cons, wp_nil, List.getElem?_cons_zero, List.getElem?_cons_succ, List.set_cons_zero, List.set_cons_succ, s_iconst, s_istore, p1_s, s1_0, s1_s, kx_i, kx_r, kx_s, kx_n, kx_l, kx_0, true_and, and_true, Nat.le_refl, true_implies, forall_const, not_false_eq_true, false_implies, not_true_eq_false, reduceCtorEq, tl_s, tl_n, rf_s, List.cons_append, List.nil_append, true_or, or_true, a5', en1, ex_ix (i := (sg W.1.1 s).1.length - 1) (n := 32) (by omega), tk.k (k := (sg W.1.1 s).1.length - 1) (by omega)]
  exact loop (sg W.1.1 s).1.length 0 (by omega)
theorem Changed_C {d : Nat} (hd : 10 ≤ d) {W : Wd} {a b s : Nat} {x : Int32} {f g : Nat → Int} {h : g_H} {Q : g_Po} (w : wfW W) (hs : s < W.1.1.length) (hp : pens h 0 W) (ha : 208 ≤ a) (hb : 208 ≤ b) (hab : a ≠ b) (har : ary h a 32 f) (hbr : ary h b 32 g) (tk : tkn (sg W.1.1 s) f) (hQ : ∀ h' W', wfW W' → W'.1.2 = W.1.2 → pens h' 0 W' → b < h'.length → Q (some (.int (I 1))) h') : G Law_changed d 2 64 2 64 496 [some (.ref 0), some (.int (I 3)), some (.int x), some (.int (I (s : Int))), some (.ref a), some (.ref b), some (.int (I ((sg W.1.1 s).1.length : Int))), some (.int (I (sz (sg W.1.1 s).2))), some (.int (I (W.1.1.length : Int))), none, none, none, none, none, none, none, none, none] [] h Q := by
  have d1 : 1 ≤ d := by omega
  have wl : W.1.1.length ≤ 10 := w.1.1.1
  have wS := w.1.1.2 s hs
  have w1 := wS.1
  have w2 := wS.2.1
  have w3 := wS.2.2.1
  obtain ⟨fs, hc⟩ := hp.at6
  have har' : h[a]? = some (.inl (0, 32, fun i => I (f i))) := har
  have en1 : ((sg W.1.1 s).1.length : Int) - 1 = (((sg W.1.1 s).1.length - 1 : Nat) : Int) := by omega
  have p0 := w3 0 (by omega)
  have pn := w3 ((sg W.1.1 s).1.length - 1) (by omega)
  have no : sp_close W s = (-3, W) → G Law_changed d 2 64 2 64 531 [some (.ref 0), some (.int (I 3)), some (.int x), some (.int (I (s : Int))), some (.ref a), some (.ref b), some (.int (I ((sg W.1.1 s).1.length : Int))), some (.int (I (sz (sg W.1.1 s).2))), some (.int (I (W.1.1.length : Int))), none, none, none, none, none, none, none, none, none] [.int (I 0)] h Q := by
    intro e
    refine B_Law_changed_531 ?_
    simp only [wp_cons, wp_nil, List.getElem?_cons_zero, List.getElem?_cons_succ, List.set_cons_zero, List.set_cons_succ, s_istore, p1_s, s1_0, s1_s, kx_i, kx_r, kx_s, kx_n, kx_l, kx_0, s_aload_n0, ldA_r, ldA_n, ldA_s, s_iload_n3, ldI_s, s_invokevirtual, rc_s, ob_s, List.drop_succ_cons, List.drop_zero, List.take_succ_cons, List.take_zero, List.reverse_cons, List.reverse_nil, List.nil_append, List.cons_append, List.length_cons, List.length_nil, d1, Int.reduceToNat, Nat.reduceAdd, Nat.reduceLeDiff, true_and, and_true, Nat.le_refl, true_implies, forall_const, not_false_eq_true, false_implies, not_true_eq_false, reduceCtorEq, tl_s, tl_n, rf_s, true_or, or_true, hc]
    refine Pens_close_c (by omega) w hp (by omega) (fun h5 c5 p5 => ?_)
    rw [e] at p5 ⊢
    have b5 := hbr.un c5.un hb (show b ≠ 0 by omega)
    have l5 := (List.getElem?_eq_some_iff.mp b5).1
    obtain ⟨fs5, hc5⟩ := p5.at6
    refine B_Law_changed_538 ?_
    simp only [wp_cons, wp_nil, List.getElem?_cons_zero, List.getElem?_cons_succ, List.set_cons_zero, List.set_cons_succ, s_iload, ldI_s, s_ifCond_eq, p1_s, true_and, and_true, Nat.le_refl, true_implies, forall_const, not_false_eq_true, false_implies, not_true_eq_false, reduceCtorEq, tl_s, tl_n, rf_s, List.cons_append, List.nil_append, true_or, or_true, hc5]
    refine B_Law_changed_548 ?_
    simp only [wp_cons, wp_nil, List.getElem?_cons_zero, List.getElem?_cons_succ, List.set_cons_zero, List.set_cons_succ, s_bipush, true_and, and_true, Nat.le_refl, true_implies, forall_const, not_false_eq_true, false_implies, not_true_eq_false, reduceCtorEq, tl_s, tl_n, rf_s, List.cons_append, List.nil_append, true_or, or_true, hc5]
    refine B_Law_changed_550 ?_
    simp only [wp_cons, wp_nil, List.getElem?_cons_zero, List.getElem?_cons_succ, List.set_cons_zero, List.set_cons_succ, s_if_icmp_ne, p2_s, true_and, and_true, Nat.le_refl, true_implies, forall_const, not_false_eq_true, false_implies, not_true_eq_false, reduceCtorEq, tl_s, tl_n, rf_s, List.cons_append, List.nil_append, true_or, or_true, hc5]
    refine B_Law_changed_553 ?_
    simp only [wp_cons, wp_nil, List.getElem?_cons_zero, List.getElem?_cons_succ, List.set_cons_zero, List.set_cons_succ, s_aload_n0, ldA_r, ldA_n, ldA_s, s_iload_n3, ldI_s, s_iconst, s_invokevirtual, rc_s, ob_s, List.drop_succ_cons, List.drop_zero, List.take_succ_cons, List.take_zero, List.reverse_cons, List.reverse_nil, List.nil_append, List.cons_append, List.length_cons, List.length_nil, d1, Int.reduceToNat, Nat.reduceAdd, Nat.reduceLeDiff, true_and, and_true, Nat.le_refl, true_implies, forall_const, not_false_eq_true, false_implies, not_true_eq_false, reduceCtorEq, tl_s, tl_n, rf_s, true_or, or_true, hc5]
    refine Pens_of_c (by omega) w p5 (by omega) (by omega) ?_
    rw [(sp_of_lit hs).1]
    by_cases z : (sg W.1.1 s).2 = true
    · have ez : sz (sg W.1.1 s).2 = 1 := if_pos z
      rw [ez]
      refine B_Law_changed_559 ?_
      simp only [wp_cons, wp_nil, List.getElem?_cons_zero, List.getElem?_cons_succ, List.set_cons_zero, List.set_cons_succ, s_iload, ldI_s, s_ifCond_ne, p1_s, true_and, and_true, Nat.le_refl, true_implies, forall_const, not_false_eq_true, false_implies, not_true_eq_false, reduceCtorEq, tl_s, tl_n, rf_s, List.cons_append, List.nil_append, true_or, or_true, hc5]
      refine B_Law_changed_564 ?_
      simp only [wp_cons, wp_nil, List.getElem?_cons_zero, List.getElem?_cons_succ, List.set_cons_zero, List.set_cons_succ, s_iload, ldI_s, s_ifCond_eq, p1_s, true_and, and_true, Nat.le_refl, true_implies, forall_const, not_false_eq_true, false_implies, not_true_eq_false, reduceCtorEq, tl_s, tl_n, rf_s, List.cons_append, List.nil_append, true_or, or_true, hc5]
      refine b_eq (by omega) (by omega) (fun cc => absurd cc (by omega)) (fun cc => ?_)
      refine B_Law_changed_569 ?_
      simp only [wp_cons, wp_nil, List.getElem?_cons_zero, List.getElem?_cons_succ, List.set_cons_zero, List.set_cons_succ, s_iconst, s_goto, true_and, and_true, Nat.le_refl, true_implies, forall_const, not_false_eq_true, false_implies, not_true_eq_false, reduceCtorEq, tl_s, tl_n, rf_s, List.cons_append, List.nil_append, true_or, or_true, hc5]
      refine B_Law_changed_574 ?_
      simp only [wp_cons, wp_nil, List.getElem?_cons_zero, List.getElem?_cons_succ, List.set_cons_zero, List.set_cons_succ, s_if_icmp_eq, p2_s, true_and, and_true, Nat.le_refl, true_implies, forall_const, not_false_eq_true, false_implies, not_true_eq_false, reduceCtorEq, tl_s, tl_n, rf_s, List.cons_append, List.nil_append, true_or, or_true, hc5]
      refine B_Law_changed_579 ?_
      simp only [wp_cons, wp_nil, List.getElem?_cons_zero, List.getElem?_cons_succ, List.set_cons_zero, List.set_cons_succ, s_goto, true_and, and_true, Nat.le_refl, true_implies, forall_const, not_false_eq_true, false_implies, not_true_eq_false, reduceCtorEq, tl_s, tl_n, rf_s, List.cons_append, List.nil_append, true_or, or_true, hc5]
      refine B_Law_changed_1031 ?_
      simp only [wp_cons, wp_nil, List.getElem?_cons_zero, List.getElem?_cons_succ, List.set_cons_zero, List.set_cons_succ, s_iconst, s_ireturn, p1_s, rI_i, rI_z, rI_c, z_01, z_11, rt_Law_changed, true_and, and_true, Nat.le_refl, true_implies, forall_const, not_false_eq_true, false_implies, not_true_eq_false, reduceCtorEq, tl_s, tl_n, rf_s, List.cons_append, List.nil_append, true_or, or_true, hc5]
      exact hQ h5 _ w rfl p5 l5
    · have ez : sz (sg W.1.1 s).2 = 0 := if_neg z
      rw [ez]
      refine B_Law_changed_559 ?_
      simp only [wp_cons, wp_nil, List.getElem?_cons_zero, List.getElem?_cons_succ, List.set_cons_zero, List.set_cons_succ, s_iload, ldI_s, s_ifCond_ne, p1_s, true_and, and_true, Nat.le_refl, true_implies, forall_const, not_false_eq_true, false_implies, not_true_eq_false, reduceCtorEq, tl_s, tl_n, rf_s, List.cons_append, List.nil_append, true_or, or_true, hc5]
      refine B_Law_changed_564 ?_
      simp only [wp_cons, wp_nil, List.getElem?_cons_zero, List.getElem?_cons_succ, List.set_cons_zero, List.set_cons_succ, s_iload, ldI_s, s_ifCond_eq, p1_s, true_and, and_true, Nat.le_refl, true_implies, forall_const, not_false_eq_true, false_implies, not_true_eq_false, reduceCtorEq, tl_s, tl_n, rf_s, List.cons_append, List.nil_append, true_or, or_true, hc5]
      refine B_Law_changed_573 ?_
      simp only [wp_cons, wp_nil, List.getElem?_cons_zero, List.getElem?_cons_succ, List.set_cons_zero, List.set_cons_succ, s_iconst, true_and, and_true, Nat.le_refl, true_implies, forall_const, not_false_eq_true, false_implies, not_true_eq_false, reduceCtorEq, tl_s, tl_n, rf_s, List.cons_append, List.nil_append, true_or, or_true, hc5]
      refine B_Law_changed_574 ?_
      simp only [wp_cons, wp_nil, List.getElem?_cons_zero, List.getElem?_cons_succ, List.set_cons_zero, List.set_cons_succ, s_if_icmp_eq, p2_s, true_and, and_true, Nat.le_refl, true_implies, forall_const, not_false_eq_true, false_implies, not_true_eq_false, reduceCtorEq, tl_s, tl_n, rf_s, List.cons_append, List.nil_append, true_or, or_true, hc5]
      refine B_Law_changed_579 ?_
      simp only [wp_cons, wp_nil, List.getElem?_cons_zero, List.getElem?_cons_succ, List.set_cons_zero, List.set_cons_succ, s_goto, true_and, and_true, Nat.le_refl, true_implies, forall_const, not_false_eq_true, false_implies, not_true_eq_false, reduceCtorEq, tl_s, tl_n, rf_s, List.cons_append, List.nil_append, true_or, or_true, hc5]
      refine B_Law_changed_1031 ?_
      simp only [wp_cons, wp_nil, List.getElem?_cons_zero, List.getElem?_cons_succ, List.set_cons_zero, List.set_cons_succ, s_iconst, s_ireturn, p1_s, rI_i, rI_z, rI_c, z_01, z_11, rt_Law_changed, true_and, and_true, Nat.le_refl, true_implies, forall_const, not_false_eq_true, false_implies, not_true_eq_false, reduceCtorEq, tl_s, tl_n, rf_s, List.cons_append, List.nil_append, true_or, or_true, hc5]
      exact hQ h5 _ w rfl p5 l5
  by_cases z : (sg W.1.1 s).2 = true
  · have ez : sz (sg W.1.1 s).2 = 1 := if_pos z
    have no := no (by rw [sp_close_k hs, if_pos (Or.inl z)])
    rw [ez] at no ⊢
    refine B_Law_changed_496 ?_
    simp only [wp_cons, wp_nil, List.getElem?_cons_zero, List.getElem?_cons_succ, List.set_cons_zero, List.set_cons_succ, s_iload_n1, ldI_s, s_iconst, s_if_icmp_ne, p2_s, true_and, and_true, Nat.le_refl, true_implies, forall_const, not_false_eq_true, false_implies, not_true_eq_false, reduceCtorEq, tl_s, tl_n, rf_s, List.cons_append, List.nil_append, true_or, or_true]
    refine B_Law_changed_501 ?_
    simp only [wp_cons, wp_nil, List.getElem?_cons_zero, List.getElem?_cons_succ, List.set_cons_zero, List.set_cons_succ, s_iload, ldI_s, s_ifCond_ne, p1_s, true_and, and_true, Nat.le_refl, true_implies, forall_const, not_false_eq_true, false_implies, not_true_eq_false, reduceCtorEq, tl_s, tl_n, rf_s, List.cons_append, List.nil_append, true_or, or_true]
    refine b_ne (by omega) (by omega) (fun cc => ?_) (fun cc => absurd cc (by omega))
    refine B_Law_changed_530 ?_
    simp only [wp_cons, wp_nil, List.getElem?_cons_zero, List.getElem?_cons_succ, List.set_cons_zero, List.set_cons_succ, s_iconst, true_and, and_true, Nat.le_refl, true_implies, forall_const, not_false_eq_true, false_implies, not_true_eq_false, reduceCtorEq, tl_s, tl_n, rf_s, List.cons_append, List.nil_append, true_or, or_true]
    exact no
  · have ez : sz (sg W.1.1 s).2 = 0 := if_neg z
    by_cases c1 : (sg W.1.1 s).1.length < 3
    · have no := no (by rw [sp_close_k hs, if_pos (Or.inr (Or.inl c1))])
      rw [ez] at no ⊢
      refine B_Law_changed_496 ?_
      simp only [wp_cons, wp_nil, List.getElem?_cons_zero, List.getElem?_cons_succ, List.set_cons_zero, List.set_cons_succ, s_iload_n1, ldI_s, s_iconst, s_if_icmp_ne, p2_s, true_and, and_true, Nat.le_refl, true_implies, forall_const, not_false_eq_true, false_implies, not_true_eq_false, reduceCtorEq, tl_s, tl_n, rf_s, List.cons_append, List.nil_append, true_or, or_true]
      refine B_Law_changed_501 ?_
      simp only [wp_cons, wp_nil, List.getElem?_cons_zero, List.getElem?_cons_succ, List.set_cons_zero, List.set_cons_succ, s_iload, ldI_s, s_ifCond_ne, p1_s, true_and, and_true, Nat.le_refl, true_implies, forall_const, not_false_eq_true, false_implies, not_true_eq_false, reduceCtorEq, tl_s, tl_n, rf_s, List.cons_append, List.nil_append, true_or, or_true]
      refine B_Law_changed_506 ?_
      simp only [wp_cons, wp_nil, List.getElem?_cons_zero, List.getElem?_cons_succ, List.set_cons_zero, List.set_cons_succ, s_iload, ldI_s, s_iconst, s_if_icmp_le, p2_s, true_and, and_true, Nat.le_refl, true_implies, forall_const, not_false_eq_true, false_implies, not_true_eq_false, reduceCtorEq, tl_s, tl_n, rf_s, List.cons_append, List.nil_append, true_or, or_true]
      refine b_le (by omega) (by omega) (fun cc => ?_) (fun cc => absurd cc (by omega))
      refine B_Law_changed_530 ?_
      simp only [wp_cons, wp_nil, List.getElem?_cons_zero, List.getElem?_cons_succ, List.set_cons_zero, List.set_cons_succ, s_iconst, true_and, and_true, Nat.le_refl, true_implies, forall_const, not_false_eq_true, false_implies, not_true_eq_false, reduceCtorEq, tl_s, tl_n, rf_s, List.cons_append, List.nil_append, true_or, or_true]
      exact no
    · by_cases c2 : pg (sg W.1.1 s).1 0 = pg (sg W.1.1 s).1 ((sg W.1.1 s).1.length - 1)
      · have no := no (by rw [sp_close_k hs, if_pos (Or.inr (Or.inr c2))])
        rw [ez] at no ⊢
        refine B_Law_changed_496 ?_
        simp only [wp_cons, wp_nil, List.getElem?_cons_zero, List.getElem?_cons_succ, List.set_cons_zero, List.set_cons_succ, s_iload_n1, ldI_s, s_iconst, s_if_icmp_ne, p2_s, true_and, and_true, Nat.le_refl, true_implies, forall_const, not_false_eq_true, false_implies, not_true_eq_false, reduceCtorEq, tl_s, tl_n, rf_s, List.cons_append, List.nil_append, true_or, or_true, har', en1, ex_ie (x := 0) (i := 0) (n := 32) rfl (by omega), ex_ix (i := (sg W.1.1 s).1.length - 1) (n := 32) (by omega), tk.k (k := 0) (by omega), tk.k (k := (sg W.1.1 s).1.length - 1) (by omega)]
        refine B_Law_changed_501 ?_
        simp only [wp_cons, wp_nil, List.getElem?_cons_zero, List.getElem?_cons_succ, List.set_cons_zero, List.set_cons_succ, s_iload, ldI_s, s_ifCond_ne, p1_s, true_and, and_true, Nat.le_refl, true_implies, forall_const, not_false_eq_true, false_implies, not_true_eq_false, reduceCtorEq, tl_s, tl_n, rf_s, List.cons_append, List.nil_append, true_or, or_true, har', en1, ex_ie (x := 0) (i := 0) (n := 32) rfl (by omega), ex_ix (i := (sg W.1.1 s).1.length - 1) (n := 32) (by omega), tk.k (k := 0) (by omega), tk.k (k := (sg W.1.1 s).1.length - 1) (by omega)]
        refine B_Law_changed_506 ?_
        simp only [wp_cons, wp_nil, List.getElem?_cons_zero, List.getElem?_cons_succ, List.set_cons_zero, List.set_cons_succ, s_iload, ldI_s, s_iconst, s_if_icmp_le, p2_s, true_and, and_true, Nat.le_refl, true_implies, forall_const, not_false_eq_true, false_implies, not_true_eq_false, reduceCtorEq, tl_s, tl_n, rf_s, List.cons_append, List.nil_append, true_or, or_true, har', en1, ex_ie (x := 0) (i := 0) (n := 32) rfl (by omega), ex_ix (i := (sg W.1.1 s).1.length - 1) (n := 32) (by omega), tk.k (k := 0) (by omega), tk.k (k := (sg W.1.1 s).1.length - 1) (by omega)]
        refine b_le (by omega) (by omega) (fun cc => absurd cc (by omega)) (fun cc => ?_)
        refine B_Law_changed_512 ?_
        simp only [wp_cons, wp_nil, List.getElem?_cons_zero, List.getElem?_cons_succ, List.set_cons_zero, List.set_cons_succ, s_aload, ldA_r, ldA_n, ldA_s, s_iconst, s_iaload, iR_s, ia_s, s_iload, ldI_s, s_isub, p2_s, I_sub, s_if_icmp_eq, true_and, and_true, Nat.le_refl, true_implies, forall_const, not_false_eq_true, false_implies, not_true_eq_false, reduceCtorEq, tl_s, tl_n, rf_s, List.cons_append, List.nil_append, true_or, or_true, har', en1, ex_ie (x := 0) (i := 0) (n := 32) rfl (by omega), ex_ix (i := (sg W.1.1 s).1.length - 1) (n := 32) (by omega), tk.k (k := 0) (by omega), tk.k (k := (sg W.1.1 s).1.length - 1) (by omega)]
        refine b_eq (by omega) (by omega) (fun cc => ?_) (fun cc => absurd cc (by omega))
        refine B_Law_changed_530 ?_
        simp only [wp_cons, wp_nil, List.getElem?_cons_zero, List.getElem?_cons_succ, List.set_cons_zero, List.set_cons_succ, s_iconst, true_and, and_true, Nat.le_refl, true_implies, forall_const, not_false_eq_true, false_implies, not_true_eq_false, reduceCtorEq, tl_s, tl_n, rf_s, List.cons_append, List.nil_append, true_or, or_true, har', en1, ex_ie (x := 0) (i := 0) (n := 32) rfl (by omega), ex_ix (i := (sg W.1.1 s).1.length - 1) (n := 32) (by omega), tk.k (k := 0) (by omega), tk.k (k := (sg W.1.1 s).1.length - 1) (by omega)]
        exact no
      · have es := set_s ((sg W.1.1 s).1, true) hs
        have e : sp_close W s = (((sg W.1.1 s).1.length : Int), setD W (W.1.1.set s ((sg W.1.1 s).1, true))) := by
          rw [sp_close_k hs, if_neg (fun q => q.elim z (fun q => q.elim c1 c2))]
        rw [ez]
        refine B_Law_changed_496 ?_
        simp only [wp_cons, wp_nil, List.getElem?_cons_zero, List.getElem?_cons_succ, List.set_cons_zero, List.set_cons_succ, s_iload_n1, ldI_s, s_iconst, s_if_icmp_ne, p2_s, true_and, and_true, Nat.le_refl, true_implies, forall_const, not_false_eq_true, false_implies, not_true_eq_false, reduceCtorEq, tl_s, tl_n, rf_s, List.cons_append, List.nil_append, true_or, or_true, hc, har', en1, ex_ie (x := 0) (i := 0) (n := 32) rfl (by omega), ex_ix (i := (sg W.1.1 s).1.length - 1) (n := 32) (by omega), tk.k (k := 0) (by omega), tk.k (k := (sg W.1.1 s).1.length - 1) (by omega)]
        refine B_Law_changed_501 ?_
        simp only [wp_cons, wp_nil, List.getElem?_cons_zero, List.getElem?_cons_succ, List.set_cons_zero, List.set_cons_succ, s_iload, ldI_s, s_ifCond_ne, p1_s, true_and, and_true, Nat.le_refl, true_implies, forall_const, not_false_eq_true, false_implies, not_true_eq_false, reduceCtorEq, tl_s, tl_n, rf_s, List.cons_append, List.nil_append, true_or, or_true, hc, har', en1, ex_ie (x := 0) (i := 0) (n := 32) rfl (by omega), ex_ix (i := (sg W.1.1 s).1.length - 1) (n := 32) (by omega), tk.k (k := 0) (by omega), tk.k (k := (sg W.1.1 s).1.length - 1) (by omega)]
        refine B_Law_changed_506 ?_
        simp only [wp_cons, wp_nil, List.getElem?_cons_zero, List.getElem?_cons_succ, List.set_cons_zero, List.set_cons_succ, s_iload, ldI_s, s_iconst, s_if_icmp_le, p2_s, true_and, and_true, Nat.le_refl, true_implies, forall_const, not_false_eq_true, false_implies, not_true_eq_false, reduceCtorEq, tl_s, tl_n, rf_s, List.cons_append, List.nil_append, true_or, or_true, hc, har', en1, ex_ie (x := 0) (i := 0) (n := 32) rfl (by omega), ex_ix (i := (sg W.1.1 s).1.length - 1) (n := 32) (by omega), tk.k (k := 0) (by omega), tk.k (k := (sg W.1.1 s).1.length - 1) (by omega)]
        refine b_le (by omega) (by omega) (fun cc => absurd cc (by omega)) (fun cc => ?_)
        refine B_Law_changed_512 ?_
        simp only [wp_cons, wp_nil, List.getElem?_cons_zero, List.getElem?_cons_succ, List.set_cons_zero, List.set_cons_succ, s_aload, ldA_r, ldA_n, ldA_s, s_iconst, s_iaload, iR_s, ia_s, s_iload, ldI_s, s_isub, p2_s, I_sub, s_if_icmp_eq, true_and, and_true, Nat.le_refl, true_implies, forall_const, not_false_eq_true, false_implies, not_true_eq_false, reduceCtorEq, tl_s, tl_n, rf_s, List.cons_append, List.nil_append, true_or, or_true, hc, har', en1, ex_ie (x := 0) (i := 0) (n := 32) rfl (by omega), ex_ix (i := (sg W.1.1 s).1.length - 1) (n := 32) (by omega), tk.k (k := 0) (by omega), tk.k (k := (sg W.1.1 s).1.length - 1) (by omega)]
        refine b_eq (by omega) (by omega) (fun cc => absurd cc (by omega)) (fun cc => ?_)
        refine B_Law_changed_526 ?_
        simp only [wp_cons, wp_nil, List.getElem?_cons_zero, List.getElem?_cons_succ, List.set_cons_zero, List.set_cons_succ, s_iconst, s_goto, true_and, and_true, Nat.le_refl, true_implies, forall_const, not_false_eq_true, false_implies, not_true_eq_false, reduceCtorEq, tl_s, tl_n, rf_s, List.cons_append, List.nil_append, true_or, or_true, hc, har', en1, ex_ie (x := 0) (i := 0) (n := 32) rfl (by omega), ex_ix (i := (sg W.1.1 s).1.length - 1) (n := 32) (by omega), tk.k (k := 0) (by omega), tk.k (k := (sg W.1.1 s).1.length - 1) (by omega)]
        refine B_Law_changed_531 ?_
        simp only [wp_cons, wp_nil, List.getElem?_cons_zero, List.getElem?_cons_succ, List.set_cons_zero, List.set_cons_succ, s_istore, p1_s, s1_0, s1_s, kx_i, kx_r, kx_s, kx_n, kx_l, kx_0, s_aload_n0, ldA_r, ldA_n, ldA_s, s_iload_n3, ldI_s, s_invokevirtual, rc_s, ob_s, List.drop_succ_cons, List.drop_zero, List.take_succ_cons, List.take_zero, List.reverse_cons, List.reverse_nil, List.nil_append, List.cons_append, List.length_cons, List.length_nil, d1, Int.reduceToNat, Nat.reduceAdd, Nat.reduceLeDiff, true_and, and_true, Nat.le_refl, true_implies, forall_const, not_false_eq_true, false_implies, not_true_eq_false, reduceCtorEq, tl_s, tl_n, rf_s, true_or, or_true, hc, har', en1, ex_ie (x := 0) (i := 0) (n := 32) rfl (by omega), ex_ix (i := (sg W.1.1 s).1.length - 1) (n := 32) (by omega), tk.k (k := 0) (by omega), tk.k (k := (sg W.1.1 s).1.length - 1) (by omega)]
        refine Pens_close_c (by omega) w hp (by omega) (fun h5 c5 p5 => ?_)
        have w5 := kp_close w (s : Int)
        rw [e] at p5 w5 ⊢
        have b5 := hbr.un c5.un hb (show b ≠ 0 by omega)
        have l5 := (List.getElem?_eq_some_iff.mp b5).1
        obtain ⟨fs5, hc5⟩ := p5.at6
        have hs5 : s < (setD W (W.1.1.set s ((sg W.1.1 s).1, true))).1.1.length := by
          show s < (W.1.1.set s _).length
          rw [List.length_set]; exact hs
        refine B_Law_changed_538 ?_
        simp only [wp_cons, wp_nil, List.getElem?_cons_zero, List.getElem?_cons_succ, List.set_cons_zero, List.set_cons_succ, s_iload, ldI_s, s_ifCond_eq, p1_s, true_and, and_true, Nat.le_refl, true_implies, forall_const, not_false_eq_true, false_implies, not_true_eq_false, reduceCtorEq, tl_s, tl_n, rf_s, List.cons_append, List.nil_append, true_or, or_true, hc5]
        refine b_eq (by omega) (by omega) (fun cc => absurd cc (by omega)) (fun cc => ?_)
        refine B_Law_changed_543 ?_
        simp only [wp_cons, wp_nil, List.getElem?_cons_zero, List.getElem?_cons_succ, List.set_cons_zero, List.set_cons_succ, s_iload, ldI_s, s_goto, true_and, and_true, Nat.le_refl, true_implies, forall_const, not_false_eq_true, false_implies, not_true_eq_false, reduceCtorEq, tl_s, tl_n, rf_s, List.cons_append, List.nil_append, true_or, or_true, hc5]
        refine B_Law_changed_550 ?_
        simp only [wp_cons, wp_nil, List.getElem?_cons_zero, List.getElem?_cons_succ, List.set_cons_zero, List.set_cons_succ, s_if_icmp_ne, p2_s, true_and, and_true, Nat.le_refl, true_implies, forall_const, not_false_eq_true, false_implies, not_true_eq_false, reduceCtorEq, tl_s, tl_n, rf_s, List.cons_append, List.nil_append, true_or, or_true, hc5]
        refine B_Law_changed_553 ?_
        simp only [wp_cons, wp_nil, List.getElem?_cons_zero, List.getElem?_cons_succ, List.set_cons_zero, List.set_cons_succ, s_aload_n0, ldA_r, ldA_n, ldA_s, s_iload_n3, ldI_s, s_iconst, s_invokevirtual, rc_s, ob_s, List.drop_succ_cons, List.drop_zero, List.take_succ_cons, List.take_zero, List.reverse_cons, List.reverse_nil, List.nil_append, List.cons_append, List.length_cons, List.length_nil, d1, Int.reduceToNat, Nat.reduceAdd, Nat.reduceLeDiff, true_and, and_true, Nat.le_refl, true_implies, forall_const, not_false_eq_true, false_implies, not_true_eq_false, reduceCtorEq, tl_s, tl_n, rf_s, true_or, or_true, hc5]
        refine Pens_of_c (by omega) w5 p5 (by omega) (by omega) ?_
        rw [(sp_of_lit hs5).1, show sz (sg (setD W (W.1.1.set s ((sg W.1.1 s).1, true))).1.1 s).2 = 1 by show sz (sg (W.1.1.set s _) s).2 = 1; rw [es]; rfl]
        refine B_Law_changed_559 ?_
        simp only [wp_cons, wp_nil, List.getElem?_cons_zero, List.getElem?_cons_succ, List.set_cons_zero, List.set_cons_succ, s_iload, ldI_s, s_ifCond_ne, p1_s, true_and, and_true, Nat.le_refl, true_implies, forall_const, not_false_eq_true, false_implies, not_true_eq_false, reduceCtorEq, tl_s, tl_n, rf_s, List.cons_append, List.nil_append, true_or, or_true, hc5]
        refine b_ne (by omega) (by omega) (fun cc => ?_) (fun cc => absurd cc (by omega))
        refine B_Law_changed_569 ?_
        simp only [wp_cons, wp_nil, List.getElem?_cons_zero, List.getElem?_cons_succ, List.set_cons_zero, List.set_cons_succ, s_iconst, s_goto, true_and, and_true, Nat.le_refl, true_implies, forall_const, not_false_eq_true, false_implies, not_true_eq_false, reduceCtorEq, tl_s, tl_n, rf_s, List.cons_append, List.nil_append, true_or, or_true, hc5]
        refine B_Law_changed_574 ?_
        simp only [wp_cons, wp_nil, List.getElem?_cons_zero, List.getElem?_cons_succ, List.set_cons_zero, List.set_cons_succ, s_if_icmp_eq, p2_s, true_and, and_true, Nat.le_refl, true_implies, forall_const, not_false_eq_true, false_implies, not_true_eq_false, reduceCtorEq, tl_s, tl_n, rf_s, List.cons_append, List.nil_append, true_or, or_true, hc5]
        refine B_Law_changed_579 ?_
        simp only [wp_cons, wp_nil, List.getElem?_cons_zero, List.getElem?_cons_succ, List.set_cons_zero, List.set_cons_succ, s_goto, true_and, and_true, Nat.le_refl, true_implies, forall_const, not_false_eq_true, false_implies, not_true_eq_false, reduceCtorEq, tl_s, tl_n, rf_s, List.cons_append, List.nil_append, true_or, or_true, hc5]
        refine B_Law_changed_1031 ?_
        simp only [wp_cons, wp_nil, List.getElem?_cons_zero, List.getElem?_cons_succ, List.set_cons_zero, List.set_cons_succ, s_iconst, s_ireturn, p1_s, rI_i, rI_z, rI_c, z_01, z_11, rt_Law_changed, true_and, and_true, Nat.le_refl, true_implies, forall_const, not_false_eq_true, false_implies, not_true_eq_false, reduceCtorEq, tl_s, tl_n, rf_s, List.cons_append, List.nil_append, true_or, or_true, hc5]
        exact hQ h5 _ w5 rfl p5 l5
