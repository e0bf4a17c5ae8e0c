/-! ===== constructors ===== -/
def ext (a n : Nat) (h h' : g_H) : Prop := h'.length = a + n ∧ ∀ b : Nat, b < a → h'[b]? = h[b]?
theorem ap_l {h : g_H} {b : Nat} (x : g_C) (hb : b < h.length) : (h ++ [x])[b]? = h[b]? := List.getElem?_append_left hb
theorem ap_r {h : g_H} {b : Nat} (x : g_C) (hb : b = h.length) : (h ++ [x])[b]? = some x := by
  rw [hb, List.getElem?_append_right (Nat.le_refl _), Nat.sub_self]; rfl
theorem len_ap (h : g_H) (x : g_C) : (h ++ [x]).length = h.length + 1 := by simp
theorem len_st (h : g_H) (a : Nat) (x : g_C) : (h.set a x).length = h.length := List.length_set
theorem Stroke_init_c {d a : Nat} (hd : 1 ≤ d) {h : g_H} {Q : g_Po} (ha : h[a]? = some (.inr (.inr (2, g_dflt 2)))) (hl : h.length = a + 1) (hQ : ∀ h', ext a 2 h h' → stL h' a ([], false) → Q none h') : Call Stroke_init d 1 30 [.ref a] h Q := by
  have d1 : 1 ≤ d := by omega
  have e0 : g_dflt 2 = [.null, .int (I 0), .int (I 0)] := rfl
  rw [e0] at ha
  have e1 : ∀ x, (h ++ [x])[a]? = some (.inr (.inr (2, [.null, .int (I 0), .int (I 0)]))) := fun x => (ap_l x (by omega)).trans ha
  refine Call.intro (by rfl) (Nat.le_of_ble_eq_true rfl) ?_
  refine G.eqL (L := [some (.ref _)]) rfl ?_
  refine B_Stroke_init_0 ?_
  simp only [wp_cons, wp_nil, List.getElem?_cons_zero, List.getElem?_cons_succ, List.set_cons_zero, List.set_cons_succ, s_aload_n0, ldA_r, ldA_n, s_invokespecial, pR_s, rc_s, List.drop_succ_cons, List.drop_zero, List.take_succ_cons, List.take_zero, List.reverse_cons, List.reverse_nil, List.nil_append, List.cons_append, List.length_cons, List.length_nil, Nat.reduceEqDiff, reduceIte, d1, Int.reduceToNat, Nat.reduceAdd, Nat.reduceLeDiff, s_bipush, s_newarray, p1_s, s_putfield, pv_i, pv_z, pv_r, pv_f, ob_s, z_01, z_11, s_return_, rt_Stroke_init, true_and, and_true, Nat.le_refl, true_implies, forall_const, not_false_eq_true, false_implies, not_true_eq_false, reduceCtorEq, tl_s, tl_n, rf_s, true_or, or_true, e1, hl, Nat.reduceLT]
  have c2 : ∀ x v, ((h ++ [x]).set a v)[a + 1]? = some x := fun x v => (h_ne v (by omega)).trans (ap_r x (by omega))
  refine hQ _ ⟨by rw [len_st, len_ap, hl], fun b hb => (h_ne _ (by omega)).trans (ap_l _ (by omega))⟩ ⟨fun _ => I 0, ⟨?_, c2 _ _⟩, by simp, fun i hi => absurd hi (by simp)⟩
  rw [h_at _ (e1 _)]; rfl
theorem Drawing_init_c {d a : Nat} (hd : 2 ≤ d) {h : g_H} {Q : g_Po} (ha : h[a]? = some (.inr (.inr (0, g_dflt 0)))) (hl : h.length = a + 1) (hQ : ∀ h', ext a 24 h h' → drL h' a [] ([], false) → Q none h') : Call Drawing_init d 23 373 [.ref a] h Q := by
  have d1 : 1 ≤ d := by omega
  have e0 : g_dflt 0 = [.null, .null, .int (I 0)] := rfl
  rw [e0] at ha
  have loop : ∀ (m i : Nat) (h1 : g_H) (f : Nat → Option Nat) (cs ss : Nat), i + m = 10 → cs = 3 + 2 * i → ss = 43 + 33 * i → h1.length = a + 4 + 2 * i → (∀ b, b < a → h1[b]? = h[b]?) → h1[a]? = some (.inr (.inr (0, [.ref (a + 1), .ref (a + 2), .int (I 0)]))) → h1[a + 1]? = some (.inr (.inl (2, 10, f))) → (∀ j, j < i → f j = some (a + 4 + 2 * j)) → stL h1 (a + 2) ([], false) → (∀ j, j < i → stL h1 (a + 4 + 2 * j) ([], false)) → G Drawing_init d 23 373 cs ss 26 [some (.ref a), some (.int (I (i : Int)))] [] h1 Q := by
    intro m
    induction m with
    | zero =>
      intro i h1 f cs ss hi hcs hss hl1 hb h2 h3 h4 h5 h6
      obtain rfl : i = 10 := by omega
      have e3 : cs ≤ 23 := by omega
      have e4 : ss ≤ 373 := by omega
      refine B_Drawing_init_26 ?_
      simp only [wp_cons, wp_nil, List.getElem?_cons_zero, List.getElem?_cons_succ, List.set_cons_zero, List.set_cons_succ, s_iload_n1, ldI_s, s_aload_n0, ldA_r, ldA_n, s_getfield, pR_s, ob_s, gt_s, s_arraylength, al_0, al_1, al_2, al_3, s_if_icmp_ge, p2_s, true_and, and_true, Nat.le_refl, true_implies, forall_const, not_false_eq_true, false_implies, not_true_eq_false, reduceCtorEq, tl_s, tl_n, rf_s, List.cons_append, List.nil_append, true_or, or_true, h2, h3, e3, e4]
      refine b_le (by omega) (by omega) (fun cc => ?_) (fun cc => absurd cc (by omega))
      refine B_Drawing_init_54 ?_
      simp only [wp_cons, wp_nil, List.getElem?_cons_zero, List.getElem?_cons_succ, List.set_cons_zero, List.set_cons_succ, s_return_, rt_Drawing_init, true_and, and_true, Nat.le_refl, true_implies, forall_const, not_false_eq_true, false_implies, not_true_eq_false, reduceCtorEq, tl_s, tl_n, rf_s, List.cons_append, List.nil_append, true_or, or_true, h2, h3, e3, e4]
      refine hQ _ ⟨by omega, hb⟩ ⟨fun j => a + 4 + 2 * j, by simp, h2, ⟨f, h3, fun j hj => h4 j hj⟩, h5, fun j hj => by omega, fun j k hj hk hjk => by omega, fun j hj => (h6 j hj).x, fun j hj => absurd hj (by simp)⟩
    | succ m ih =>
      intro i h1 f cs ss hi hcs hss hl1 hb h2 h3 h4 h5 h6
      have e3 : cs + 1 ≤ 23 := by omega
      have e4 : ss + 3 ≤ 373 := by omega
      refine B_Drawing_init_26 ?_
      simp only [wp_cons, wp_nil, List.getElem?_cons_zero, List.getElem?_cons_succ, List.set_cons_zero, List.set_cons_succ, s_iload_n1, ldI_s, s_aload_n0, ldA_r, ldA_n, s_getfield, pR_s, ob_s, gt_s, s_arraylength, al_0, al_1, al_2, al_3, s_if_icmp_ge, p2_s, true_and, and_true, Nat.le_refl, true_implies, forall_const, not_false_eq_true, false_implies, not_true_eq_false, reduceCtorEq, tl_s, tl_n, rf_s, List.cons_append, List.nil_append, true_or, or_true, h2, h3, e3, e4]
      refine b_le (by omega) (by omega) (fun cc => absurd cc (by omega)) (fun cc => ?_)
      refine B_Drawing_init_35 ?_
      simp only [wp_cons, wp_nil, List.getElem?_cons_zero, List.getElem?_cons_succ, List.set_cons_zero, List.set_cons_succ, s_aload_n0, ldA_r, ldA_n, s_getfield, pR_s, ob_s, gt_s, s_iload_n1, ldI_s, s_new, s_dup, p1v_i, p1v_r, s_invokespecial, rc_s, List.drop_succ_cons, List.drop_zero, List.take_succ_cons, List.take_zero, List.reverse_cons, List.reverse_nil, List.nil_append, List.cons_append, List.length_cons, List.length_nil, Nat.reduceEqDiff, reduceIte, d1, Int.reduceToNat, Nat.reduceAdd, Nat.reduceLeDiff, true_and, and_true, Nat.le_refl, true_implies, forall_const, not_false_eq_true, false_implies, not_true_eq_false, reduceCtorEq, tl_s, tl_n, rf_s, true_or, or_true, h2, h3, e3, e4]
      refine ⟨1, 30, by omega, by omega, ?_⟩
      rw [hl1]
      refine Stroke_init_c (by omega) (ap_r _ (by omega)) (by rw [len_ap, hl1]) (fun h7 x7 s7 => ?_)
      have k2 : h7[a]? = some (.inr (.inr (0, [.ref (a + 1), .ref (a + 2), .int (I 0)]))) := (x7.2 a (by omega)).trans ((ap_l _ (by omega)).trans h2)
      have k3 : h7[a + 1]? = some (.inr (.inl (2, 10, f))) := (x7.2 _ (by omega)).trans ((ap_l _ (by omega)).trans h3)
      have c1 : chg (a + 4 + 2 * i) (a + 4 + 2 * i + 2) h7 h7 := chg.rf
      have kp : ∀ s, s + 2 ≤ a + 4 + 2 * i → stL h1 s ([], false) → stL h7 s ([], false) := fun s hs q => by
        obtain ⟨g, ⟨g1, g2⟩, g3, g4⟩ := q
        exact ⟨g, ⟨(x7.2 _ (by omega)).trans ((ap_l _ (by omega)).trans g1), (x7.2 _ (by omega)).trans ((ap_l _ (by omega)).trans g2)⟩, g3, g4⟩
      refine B_Drawing_init_47 ?_
      simp only [wp_cons, wp_nil, List.getElem?_cons_zero, List.getElem?_cons_succ, List.set_cons_zero, List.set_cons_succ, s_aastore, riR_s, ra_s, s_iinc, ldI_s, s1_0, s1_s, kx_i, kx_r, kx_n, kx_l, kx_0, I_add, s_goto, true_and, and_true, Nat.le_refl, true_implies, forall_const, not_false_eq_true, false_implies, not_true_eq_false, reduceCtorEq, tl_s, tl_n, rf_s, List.cons_append, List.nil_append, true_or, or_true, k3, el_s s7.c, ex_ix (i := i) (n := 10) (by omega)]
      have c2 : ∀ v, chg (a + 1) (a + 2) h7 (h7.set (a + 1) v) := fun v => chg.set _ (by omega)
      refine ih (i + 1) _ (va_up f i (some (a + 4 + 2 * i))) _ _ (by omega) (by omega) (by omega) (by rw [len_st, x7.1]; omega) (fun b hb2 => ?_) ?_ (h_at _ k3) (fun j hj => ?_) ((kp _ (by omega) h5).kp (c2 _) (by omega)) (fun j hj => ?_)
      · rw [h_ne _ (by omega), x7.2 b (by omega), ap_l _ (by omega), hb b hb2]
      · rw [h_ne _ (by omega)]; exact k2
      · by_cases e : j = i
        · rw [e, up_same]
        · rw [up_ne _ _ e]; exact h4 j (by omega)
      · by_cases e : j = i
        · rw [e]; exact s7.kp (c2 _) (by omega)
        · exact (kp _ (by omega) (h6 j (by omega))).kp (c2 _) (by omega)
  have e1 : ∀ x, (h ++ [x])[a]? = some (.inr (.inr (0, [.null, .null, .int (I 0)]))) := fun x => (ap_l x (by omega)).trans ha
  have e2 : ∀ x v, ((h ++ [x]).set a v).length = a + 2 := fun x v => by rw [len_st, len_ap, hl]
  refine Call.intro (by rfl) (Nat.le_of_ble_eq_true rfl) ?_
  refine G.eqL (L := [some (.ref _), none]) rfl ?_
  refine B_Drawing_init_0 ?_
  simp only [wp_cons, wp_nil, List.getElem?_cons_zero, List.getElem?_cons_succ, List.set_cons_zero, List.set_cons_succ, s_aload_n0, ldA_r, ldA_n, s_invokespecial, pR_s, rc_s, List.drop_succ_cons, List.drop_zero, List.take_succ_cons, List.take_zero, List.reverse_cons, List.reverse_nil, List.nil_append, List.cons_append, List.length_cons, List.length_nil, Nat.reduceEqDiff, reduceIte, d1, Int.reduceToNat, Nat.reduceAdd, Nat.reduceLeDiff, s_bipush, s_anewarray, p1_s, s_putfield, pv_i, pv_z, pv_r, pv_f, ob_s, z_01, z_11, s_new, s_dup, p1v_i, p1v_r, true_and, and_true, Nat.le_refl, true_implies, forall_const, not_false_eq_true, false_implies, not_true_eq_false, reduceCtorEq, tl_s, tl_n, rf_s, true_or, or_true, e1, e2, hl, Nat.reduceLT]
  refine ⟨1, 30, by omega, by omega, ?_⟩
  refine Stroke_init_c (by omega) (ap_r _ (e2 _ _).symm) (by rw [len_ap, e2]) (fun h7 x7 s7 => ?_)
  have k2 : h7[a]? = some (.inr (.inr (0, [.ref (a + 1), .null, .int (I 0)]))) := (x7.2 a (by omega)).trans ((ap_l _ (by rw [e2]; omega)).trans (h_at _ (e1 _)))
  have k3 : h7[a + 1]? = some (.inr (.inl (2, 10, fun _ => none))) := (x7.2 _ (by omega)).trans ((ap_l _ (by rw [e2]; omega)).trans ((h_ne _ (by omega)).trans (ap_r _ (by omega))))
  have c2 : ∀ v, chg a (a + 1) h7 (h7.set a v) := fun v => chg.set _ (by omega)
  refine B_Drawing_init_21 ?_
  simp only [wp_cons, wp_nil, List.getElem?_cons_zero, List.getElem?_cons_succ, List.set_cons_zero, List.set_cons_succ, s_putfield, pv_i, pv_z, pv_r, pv_f, ob_s, z_01, z_11, List.length_cons, List.length_nil, s_iconst, s_istore_n1, p1_s, s1_0, s1_s, kx_i, kx_r, kx_n, kx_l, kx_0, true_and, and_true, Nat.le_refl, true_implies, forall_const, not_false_eq_true, false_implies, not_true_eq_false, reduceCtorEq, tl_s, tl_n, rf_s, List.cons_append, List.nil_append, true_or, or_true, k2, Nat.reduceLT, Nat.reduceAdd]
  refine loop 10 0 _ (fun _ => none) _ _ (by omega) (by omega) (by omega) (by rw [len_st, x7.1]) (fun b hb => ?_) (h_at _ k2) ((h_ne _ (by omega)).trans k3) (fun j hj => absurd hj (by omega)) (s7.kp (c2 _) (by omega)) (fun j hj => absurd hj (by omega))
  rw [h_ne _ (by omega), x7.2 b (by omega), ap_l _ (by rw [e2]; omega), h_ne _ (by omega), ap_l _ (by omega)]
