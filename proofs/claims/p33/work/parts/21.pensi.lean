/-! ===== constructors ===== -/
def ext (a n : Nat) (h h' : g_H) : Prop := h'.length = a + n ∧ ∀ b : Nat, b < a → h'[b]? = h[b]?
theorem ap_l {h : g_H} {b : Nat} (x : g_C) (hb : b < h.length) : (h ++ [x])[b]? = h[b]? := List.getElem?_append_left hb
theorem ap_r {h : g_H} {b : Nat} (x : g_C) (hb : b = h.length) : (h ++ [x])[b]? = some x := by
  rw [hb, List.getElem?_append_right (Nat.le_refl _), Nat.sub_self]; rfl
theorem len_ap (h : g_H) (x : g_C) : (h ++ [x]).length = h.length + 1 := by simp
theorem len_st (h : g_H) (a : Nat) (x : g_C) : (h.set a x).length = h.length := List.length_set
theorem Stroke_init_c {d a : Nat} (hd : 1 ≤ d) {h : g_H} {Q : g_Po} (ha : h[a]? = some (.inr (.inr (2, g_dflt 2)))) (hl : h.length = a + 1) (hQ : ∀ h', ext a 2 h h' → stL h' a ([], false) → Q none h') : Call Stroke_init d 1 30 [.ref a] h Q := by
  have d1 : 1 ≤ d := by omega
  have e0 : g_dflt 2 = [.null, .int (I 0), .int (I 0)] := rfl
  rw [e0] at ha
  have e1 : ∀ x, (h ++ [x])[a]? = some (.inr (.inr (2, [.null, .int (I 0), .int (I 0)]))) := fun x => (ap_l x (by omega)).trans ha
  have i30 : (I 30 = I ((30 : Nat) : Int)) = True := eq_true rfl
  refine Call.intro (by rfl) (Nat.le_of_ble_eq_true rfl) ?_
  refine G.eqL (L := [some (.ref _)]) rfl ?_
  refine B_Stroke_init_0 ?_
  simp only [wp_cons, wp_nil, List.getElem?_cons_zero, List.getElem?_cons_succ, List.set_cons_zero, List.set_cons_succ, s_aload_n0, ldA_r, ldA_n, ldA_s, s_invokespecial, pR_s, rc_s, List.drop_succ_cons, List.drop_zero, List.take_succ_cons, List.take_zero, List.reverse_cons, List.reverse_nil, List.nil_append, List.cons_append, List.length_cons, List.length_nil, Nat.reduceEqDiff, reduceIte, d1, Int.reduceToNat, Nat.reduceAdd, Nat.reduceLeDiff, s_bipush, s_newarray, p1_s, s_putfield, pv_i, pv_z, pv_r, pv_f, ob_s, z_01, z_11, s_return_, rt_Stroke_init, true_and, and_true, Nat.le_refl, true_implies, forall_const, not_false_eq_true, false_implies, not_true_eq_false, reduceCtorEq, tl_s, tl_n, rf_s, true_or, or_true, e1, hl, i30, Nat.reduceLT]
  have c2 : ∀ x v, ((h ++ [x]).set a v)[a + 1]? = some x := fun x v => (h_ne v (by omega)).trans (ap_r x (by omega))
  refine hQ _ ⟨by rw [len_st, len_ap, hl], fun b hb => (h_ne _ (by omega)).trans (ap_l _ (by omega))⟩ ⟨fun _ => I 0, ⟨h_at _ (e1 _), c2 _ _⟩, by simp, fun i hi => absurd hi (by simp)⟩
theorem Drawing_init_c {d a : Nat} (hd : 2 ≤ d) {h : g_H} {Q : g_Po} (ha : h[a]? = some (.inr (.inr (0, g_dflt 0)))) (hl : h.length = a + 1) (hQ : ∀ h', ext a 24 h h' → drL h' a [] ([], false) → Q none h') : Call Drawing_init d 23 373 [.ref a] h Q := by
  have d1 : 1 ≤ d := by omega
  have e0 : g_dflt 0 = [.null, .null, .int (I 0)] := rfl
  rw [e0] at ha
  have loop : ∀ (m i : Nat) (h1 : g_H) (f : Nat → Option Nat) (cs ss : Nat), i + m = 10 → cs = 3 + 2 * i → ss = 43 + 33 * i → h1.length = a + 4 + 2 * i → (∀ b, b < a → h1[b]? = h[b]?) → h1[a]? = some (.inr (.inr (0, [.ref (a + 1), .ref (a + 2), .int (I 0)]))) → h1[a + 1]? = some (.inr (.inl (2, 10, f))) → (∀ j, j < i → f j = some (a + 4 + 2 * j)) → stL h1 (a + 2) ([], false) → (∀ j, j < i → stL h1 (a + 4 + 2 * j) ([], false)) → G Drawing_init d 23 373 cs ss 26 [some (.ref a), some (.int (I (i : Int)))] [] h1 Q := by
    intro m
    induction m with
    | zero =>
      intro i h1 f cs ss hi hcs hss hl1 hb h2 h3 h4 h5 h6
      obtain rfl : i = 10 := by omega
      have e3 : cs ≤ 23 := by omega
      have e4 : ss ≤ 373 := by omega
      refine B_Drawing_init_26 ?_
      simp only [wp_cons, wp_nil, List.getElem?_cons_zero, List.getElem?_cons_succ, List.set_cons_zero, List.set_cons_succ, s_iload_n1, ldI_s, s_aload_n0, ldA_r, ldA_n, ldA_s, s_getfield, pR_s, ob_s, gt_s, s_arraylength, al_0, al_1, al_2, al_3, s_if_icmp_ge, p2_s, true_and, and_true, Nat.le_refl, true_implies, forall_const, not_false_eq_true, false_implies, not_true_eq_false, reduceCtorEq, tl_s, tl_n, rf_s, List.cons_append, List.nil_append, true_or, or_true, h2, h3, e3, e4]
      refine b_le (by omega) (by omega) (fun cc => ?_) (fun cc => absurd cc (by omega))
      refine B_Drawing_init_54 ?_
      simp only [wp_cons, wp_nil, List.getElem?_cons_zero, List.getElem?_cons_succ, List.set_cons_zero, List.set_cons_succ, s_return_, rt_Drawing_init, true_and, and_true, Nat.le_refl, true_implies, forall_const, not_false_eq_true, false_implies, not_true_eq_false, reduceCtorEq, tl_s, tl_n, rf_s, List.cons_append, List.nil_append, true_or, or_true, h2, h3, e3, e4]
      refine hQ _ ⟨by omega, hb⟩ ⟨fun j => a + 4 + 2 * j, by simp, h2, ⟨f, h3, fun j hj => h4 j hj⟩, h5, fun j hj => (by show a + 4 ≤ a + 4 + 2 * j ∧ a + 4 + 2 * j + 2 ≤ a + 24; omega), fun j k hj hk hjk => (by show a + 4 + 2 * j + 2 ≤ a + 4 + 2 * k ∨ a + 4 + 2 * k + 2 ≤ a + 4 + 2 * j; omega), fun j hj => (h6 j hj).x, fun j hj => absurd hj (by simp)⟩
    | succ m ih =>
      intro i h1 f cs ss hi hcs hss hl1 hb h2 h3 h4 h5 h6
      have e3 : cs + 1 ≤ 23 := by omega
      have e4 : ss + 3 ≤ 373 := by omega
      refine B_Drawing_init_26 ?_
      simp only [wp_cons, wp_nil, List.getElem?_cons_zero, List.getElem?_cons_succ, List.set_cons_zero, List.set_cons_succ, s_iload_n1, ldI_s, s_aload_n0, ldA_r, ldA_n, ldA_s, s_getfield, pR_s, ob_s, gt_s, s_arraylength, al_0, al_1, al_2, al_3, s_if_icmp_ge, p2_s, true_and, and_true, Nat.le_refl, true_implies, forall_const, not_false_eq_true, false_implies, not_true_eq_false, reduceCtorEq, tl_s, tl_n, rf_s, List.cons_append, List.nil_append, true_or, or_true, h2, h3, e3, e4]
      refine b_le (by omega) (by omega) (fun cc => absurd cc (by omega)) (fun cc => ?_)
      refine B_Drawing_init_35 ?_
      simp only [wp_cons, wp_nil, List.getElem?_cons_zero, List.getElem?_cons_succ, List.set_cons_zero, List.set_cons_succ, s_aload_n0, ldA_r, ldA_n, ldA_s, s_getfield, pR_s, ob_s, gt_s, s_iload_n1, ldI_s, s_new, s_dup, p1v_i, p1v_r, s_invokespecial, rc_s, List.drop_succ_cons, List.drop_zero, List.take_succ_cons, List.take_zero, List.reverse_cons, List.reverse_nil, List.nil_append, List.cons_append, List.length_cons, List.length_nil, Nat.reduceEqDiff, reduceIte, d1, Int.reduceToNat, Nat.reduceAdd, Nat.reduceLeDiff, true_and, and_true, Nat.le_refl, true_implies, forall_const, not_false_eq_true, false_implies, not_true_eq_false, reduceCtorEq, tl_s, tl_n, rf_s, true_or, or_true, h2, h3, e3, e4]
      refine ⟨1, 30, by omega, by omega, ?_⟩
      rw [hl1]
      refine Stroke_init_c (by omega) (ap_r _ (by omega)) (by rw [len_ap, hl1]) (fun h7 x7 s7 => ?_)
      have k2 : h7[a]? = some (.inr (.inr (0, [.ref (a + 1), .ref (a + 2), .int (I 0)]))) := (x7.2 a (by omega)).trans ((ap_l _ (by omega)).trans h2)
      have k3 : h7[a + 1]? = some (.inr (.inl (2, 10, f))) := (x7.2 _ (by omega)).trans ((ap_l _ (by omega)).trans h3)
      have c1 : chg (a + 4 + 2 * i) (a + 4 + 2 * i + 2) h7 h7 := chg.rf
      have kp : ∀ s, s + 2 ≤ a + 4 + 2 * i → stL h1 s ([], false) → stL h7 s ([], false) := fun s hs q => by
        obtain ⟨g, ⟨g1, g2⟩, g3, g4⟩ := q
        exact ⟨g, ⟨(x7.2 _ (by omega)).trans ((ap_l _ (by omega)).trans g1), (x7.2 _ (by omega)).trans ((ap_l _ (by omega)).trans g2)⟩, g3, g4⟩
      refine B_Drawing_init_47 ?_
      simp only [wp_cons, wp_nil, List.getElem?_cons_zero, List.getElem?_cons_succ, List.set_cons_zero, List.set_cons_succ, s_aastore, riR_s, ra_s, s_iinc, ldI_s, s1_0, s1_s, kx_i, kx_r, kx_s, kx_n, kx_l, kx_0, I_add, s_goto, true_and, and_true, Nat.le_refl, true_implies, forall_const, not_false_eq_true, false_implies, not_true_eq_false, reduceCtorEq, tl_s, tl_n, rf_s, List.cons_append, List.nil_append, true_or, or_true, k3, el_s s7.c, ex_ix (i := i) (n := 10) (by omega)]
      have c2 : ∀ v, chg (a + 1) (a + 2) h7 (h7.set (a + 1) v) := fun v => chg.set _ (by omega)
      refine ih (i + 1) _ (va_up f i (some (a + 4 + 2 * i))) _ _ (by omega) (by omega) (by omega) (by rw [len_st, x7.1]; omega) (fun b hb2 => ?_) ?_ (h_at _ k3) (fun j hj => ?_) ((kp _ (by omega) h5).kp (c2 _) (by omega)) (fun j hj => ?_)
      · rw [h_ne _ (by omega), x7.2 b (by omega), ap_l _ (by omega), hb b hb2]
      · rw [h_ne _ (by omega)]; exact k2
      · by_cases e : j = i
        · rw [e, up_same]
        · rw [up_ne _ _ e]; exact h4 j (by omega)
      · by_cases e : j = i
        · rw [e]; exact s7.kp (c2 _) (by omega)
        · exact (kp _ (by omega) (h6 j (by omega))).kp (c2 _) (by omega)
  have e1 : ∀ x, (h ++ [x])[a]? = some (.inr (.inr (0, [.null, .null, .int (I 0)]))) := fun x => (ap_l x (by omega)).trans ha
  have e2 : ∀ x v, ((h ++ [x]).set a v).length = a + 2 := fun x v => by rw [len_st, len_ap, hl]
  have i10 : (I 10 = I ((10 : Nat) : Int)) = True := eq_true rfl
  refine Call.intro (by rfl) (Nat.le_of_ble_eq_true rfl) ?_
  refine G.eqL (L := [some (.ref _), none]) rfl ?_
  refine B_Drawing_init_0 ?_
  simp only [wp_cons, wp_nil, List.getElem?_cons_zero, List.getElem?_cons_succ, List.set_cons_zero, List.set_cons_succ, s_aload_n0, ldA_r, ldA_n, ldA_s, s_invokespecial, pR_s, rc_s, List.drop_succ_cons, List.drop_zero, List.take_succ_cons, List.take_zero, List.reverse_cons, List.reverse_nil, List.nil_append, List.cons_append, List.length_cons, List.length_nil, Nat.reduceEqDiff, reduceIte, d1, Int.reduceToNat, Nat.reduceAdd, Nat.reduceLeDiff, s_bipush, s_anewarray, p1_s, s_putfield, pv_i, pv_z, pv_r, pv_f, ob_s, z_01, z_11, s_new, s_dup, p1v_i, p1v_r, true_and, and_true, Nat.le_refl, true_implies, forall_const, not_false_eq_true, false_implies, not_true_eq_false, reduceCtorEq, tl_s, tl_n, rf_s, true_or, or_true, e1, e2, hl, i10, Nat.reduceLT]
  refine ⟨1, 30, by omega, by omega, ?_⟩
  refine Stroke_init_c (by omega) (ap_r _ (e2 (.inr (.inl (2, 10, fun _ => none))) _).symm) (by rw [len_ap, e2]) (fun h7 x7 s7 => ?_)
  have k2 : h7[a]? = some (.inr (.inr (0, [.ref (a + 1), .null, .int (I 0)]))) := (x7.2 a (by omega)).trans ((ap_l _ (by rw [e2]; omega)).trans (h_at _ (e1 _)))
  have k3 : h7[a + 1]? = some (.inr (.inl (2, 10, fun _ => none))) := (x7.2 _ (by omega)).trans ((ap_l _ (by rw [e2]; omega)).trans ((h_ne _ (by omega)).trans (ap_r _ (by omega))))
  have c2 : ∀ v, chg a (a + 1) h7 (h7.set a v) := fun v => chg.set _ (by omega)
  refine B_Drawing_init_21 ?_
  simp only [wp_cons, wp_nil, List.getElem?_cons_zero, List.getElem?_cons_succ, List.set_cons_zero, List.set_cons_succ, s_putfield, pv_i, pv_z, pv_r, pv_f, ob_s, z_01, z_11, List.length_cons, List.length_nil, s_iconst, s_istore_n1, p1_s, s1_0, s1_s, kx_i, kx_r, kx_s, kx_n, kx_l, kx_0, true_and, and_true, Nat.le_refl, true_implies, forall_const, not_false_eq_true, false_implies, not_true_eq_false, reduceCtorEq, tl_s, tl_n, rf_s, List.cons_append, List.nil_append, true_or, or_true, k2, Nat.reduceLT, Nat.reduceAdd]
  refine loop 10 0 _ (fun _ => none) _ _ (by omega) (by omega) (by omega) (by rw [len_st, x7.1]) (fun b hb => ?_) (h_at _ k2) ((h_ne _ (by omega)).trans k3) (fun j hj => absurd hj (by omega)) (s7.kp (c2 _) (by omega)) (fun j hj => absurd hj (by omega))
  rw [h_ne _ (by omega), x7.2 b (by omega), ap_l _ (by rw [e2]; omega), h_ne _ (by omega), ap_l _ (by omega)]
theorem History_init_c {d a : Nat} (hd : 3 ≤ d) {h : g_H} {Q : g_Po} (ha : h[a]? = some (.inr (.inr (1, g_dflt 1)))) (hl : h.length = a + 1) (hQ : ∀ h', ext a 146 h h' → hisL h' a [] → Q none h') : Call History_init d 145 2262 [.ref a] h Q := by
  have d1 : 1 ≤ d := by omega
  have e0 : g_dflt 1 = [.null, .int (I 0)] := rfl
  rw [e0] at ha
  have loop : ∀ (m i : Nat) (h1 : g_H) (f : Nat → Option Nat) (cs ss : Nat), i + m = 6 → cs = 1 + 24 * i → ss = 6 + 376 * i → h1.length = a + 2 + 24 * i → (∀ b, b < a → h1[b]? = h[b]?) → h1[a]? = some (.inr (.inr (1, [.ref (a + 1), .int (I 0)]))) → h1[a + 1]? = some (.inr (.inl (3, 6, f))) → (∀ j, j < i → f j = some (a + 2 + 24 * j)) → (∀ j, j < i → drL h1 (a + 2 + 24 * j) [] ([], false)) → G History_init d 145 2262 cs ss 15 [some (.ref a), some (.int (I (i : Int)))] [] h1 Q := by
    intro m
    induction m with
    | zero =>
      intro i h1 f cs ss hi hcs hss hl1 hb h2 h3 h4 h6
      obtain rfl : i = 6 := by omega
      have e3 : cs ≤ 145 := by omega
      have e4 : ss ≤ 2262 := by omega
      refine B_History_init_15 ?_
      simp only [wp_cons, wp_nil, List.getElem?_cons_zero, List.getElem?_cons_succ, List.set_cons_zero, List.set_cons_succ, s_iload_n1, ldI_s, s_aload_n0, ldA_r, ldA_n, ldA_s, s_getfield, pR_s, ob_s, gt_s, s_arraylength, al_0, al_1, al_2, al_3, s_if_icmp_ge, p2_s, true_and, and_true, Nat.le_refl, true_implies, forall_const, not_false_eq_true, false_implies, not_true_eq_false, reduceCtorEq, tl_s, tl_n, rf_s, List.cons_append, List.nil_append, true_or, or_true, h2, h3, e3, e4]
      refine b_le (by omega) (by omega) (fun cc => ?_) (fun cc => absurd cc (by omega))
      refine B_History_init_43 ?_
      simp only [wp_cons, wp_nil, List.getElem?_cons_zero, List.getElem?_cons_succ, List.set_cons_zero, List.set_cons_succ, s_return_, rt_History_init, true_and, and_true, Nat.le_refl, true_implies, forall_const, not_false_eq_true, false_implies, not_true_eq_false, reduceCtorEq, tl_s, tl_n, rf_s, List.cons_append, List.nil_append, true_or, or_true, h2, h3, e3, e4]
      refine hQ _ ⟨by omega, hb⟩ ⟨fun j => a + 2 + 24 * j, by simp, h2, ⟨f, h3, fun j hj => h4 j hj⟩, fun j hj => (by show a + 2 ≤ a + 2 + 24 * j ∧ a + 2 + 24 * j + 24 ≤ a + 146; omega), fun j k hj hk hjk => (by show a + 2 + 24 * j + 24 ≤ a + 2 + 24 * k ∨ a + 2 + 24 * k + 24 ≤ a + 2 + 24 * j; omega), fun j hj => (h6 j hj).x, fun j hj => absurd hj (by simp)⟩
    | succ m ih =>
      intro i h1 f cs ss hi hcs hss hl1 hb h2 h3 h4 h6
      have e3 : cs + 1 ≤ 145 := by omega
      have e4 : ss + 3 ≤ 2262 := by omega
      refine B_History_init_15 ?_
      simp only [wp_cons, wp_nil, List.getElem?_cons_zero, List.getElem?_cons_succ, List.set_cons_zero, List.set_cons_succ, s_iload_n1, ldI_s, s_aload_n0, ldA_r, ldA_n, ldA_s, s_getfield, pR_s, ob_s, gt_s, s_arraylength, al_0, al_1, al_2, al_3, s_if_icmp_ge, p2_s, true_and, and_true, Nat.le_refl, true_implies, forall_const, not_false_eq_true, false_implies, not_true_eq_false, reduceCtorEq, tl_s, tl_n, rf_s, List.cons_append, List.nil_append, true_or, or_true, h2, h3, e3, e4]
      refine b_le (by omega) (by omega) (fun cc => absurd cc (by omega)) (fun cc => ?_)
      refine B_History_init_24 ?_
      simp only [wp_cons, wp_nil, List.getElem?_cons_zero, List.getElem?_cons_succ, List.set_cons_zero, List.set_cons_succ, s_aload_n0, ldA_r, ldA_n, ldA_s, s_getfield, pR_s, ob_s, gt_s, s_iload_n1, ldI_s, s_new, s_dup, p1v_i, p1v_r, s_invokespecial, rc_s, List.drop_succ_cons, List.drop_zero, List.take_succ_cons, List.take_zero, List.reverse_cons, List.reverse_nil, List.nil_append, List.cons_append, List.length_cons, List.length_nil, Nat.reduceEqDiff, reduceIte, d1, Int.reduceToNat, Nat.reduceAdd, Nat.reduceLeDiff, true_and, and_true, Nat.le_refl, true_implies, forall_const, not_false_eq_true, false_implies, not_true_eq_false, reduceCtorEq, tl_s, tl_n, rf_s, true_or, or_true, h2, h3, e3, e4]
      refine ⟨23, 373, by omega, by omega, ?_⟩
      rw [hl1]
      refine Drawing_init_c (by omega) (ap_r _ (by omega)) (by rw [len_ap, hl1]) (fun h7 x7 s7 => ?_)
      have k2 : h7[a]? = some (.inr (.inr (1, [.ref (a + 1), .int (I 0)]))) := (x7.2 a (by omega)).trans ((ap_l _ (by omega)).trans h2)
      have k3 : h7[a + 1]? = some (.inr (.inl (3, 6, f))) := (x7.2 _ (by omega)).trans ((ap_l _ (by omega)).trans h3)
      have kp : ∀ s, s + 24 ≤ a + 2 + 24 * i → drL h1 s [] ([], false) → drL h7 s [] ([], false) := fun s hs q => by
        have q1 : drL (h1 ++ [.inr (.inr (0, g_dflt 0))]) s [] ([], false) := by
          obtain ⟨σ, b1, b2, ⟨b3, b4, b5⟩, b6, b7, b8, b9, b10⟩ := q
          have st : ∀ t T, t + 2 ≤ s + 24 → stL h1 t T → stL (h1 ++ [.inr (.inr (0, g_dflt 0))]) t T := fun t T ht q => by
            obtain ⟨g, ⟨g1, g2⟩, g3, g4⟩ := q
            exact ⟨g, ⟨(ap_l _ (by omega)).trans g1, (ap_l _ (by omega)).trans g2⟩, g3, g4⟩
          have sx : ∀ t, t + 2 ≤ s + 24 → stX h1 t → stX (h1 ++ [.inr (.inr (0, g_dflt 0))]) t := fun t ht q => by
            obtain ⟨n, z, g, g1, g2⟩ := q
            exact ⟨n, z, g, (ap_l _ (by omega)).trans g1, (ap_l _ (by omega)).trans g2⟩
          exact ⟨σ, b1, (ap_l _ (by omega)).trans b2, ⟨b3, (ap_l _ (by omega)).trans b4, b5⟩, st _ _ (by omega) b6, b7, b8, fun j hj => sx _ (by have := b7 j hj; omega) (b9 j hj), fun j hj => absurd hj (by simp)⟩
        obtain ⟨σ, b1, b2, ⟨b3, b4, b5⟩, b6, b7, b8, b9, b10⟩ := q1
        have sx : ∀ t, t + 2 ≤ s + 24 → stX (h1 ++ [.inr (.inr (0, g_dflt 0))]) t → stX h7 t := fun t ht q => by
          obtain ⟨n, z, g, g1, g2⟩ := q
          exact ⟨n, z, g, (x7.2 _ (by omega)).trans g1, (x7.2 _ (by omega)).trans g2⟩
        have st : stL h7 (s + 2) ([], false) := by
          obtain ⟨g, ⟨g1, g2⟩, g3, g4⟩ := b6
          exact ⟨g, ⟨(x7.2 _ (by omega)).trans g1, (x7.2 _ (by omega)).trans g2⟩, g3, g4⟩
        exact ⟨σ, b1, (x7.2 _ (by omega)).trans b2, ⟨b3, (x7.2 _ (by omega)).trans b4, b5⟩, st, b7, b8, fun j hj => sx _ (by have := b7 j hj; omega) (b9 j hj), fun j hj => absurd hj (by simp)⟩
      obtain ⟨σ7, s8⟩ := id s7
      refine B_History_init_36 ?_
      simp only [wp_cons, wp_nil, List.getElem?_cons_zero, List.getElem?_cons_succ, List.set_cons_zero, List.set_cons_succ, s_aastore, riR_s, ra_s, s_iinc, ldI_s, s1_0, s1_s, kx_i, kx_r, kx_s, kx_n, kx_l, kx_0, I_add, s_goto, true_and, and_true, Nat.le_refl, true_implies, forall_const, not_false_eq_true, false_implies, not_true_eq_false, reduceCtorEq, tl_s, tl_n, rf_s, List.cons_append, List.nil_append, true_or, or_true, k3, el_d s8.c, ex_ix (i := i) (n := 6) (by omega)]
      have c2 : ∀ v, chg (a + 1) (a + 2) h7 (h7.set (a + 1) v) := fun v => chg.set _ (by omega)
      refine ih (i + 1) _ (va_up f i (some (a + 2 + 24 * i))) _ _ (by omega) (by omega) (by omega) (by rw [len_st, x7.1]; omega) (fun b hb2 => ?_) ?_ (h_at _ k3) (fun j hj => ?_) (fun j hj => ?_)
      · rw [h_ne _ (by omega), x7.2 b (by omega), ap_l _ (by omega), hb b hb2]
      · rw [h_ne _ (by omega)]; exact k2
      · by_cases e : j = i
        · rw [e, up_same]
        · rw [up_ne _ _ e]; exact h4 j (by omega)
      · by_cases e : j = i
        · rw [e]; exact s7.kp (c2 _) (by omega)
        · exact (kp _ (by omega) (h6 j (by omega))).kp (c2 _) (by omega)
  have e1 : ∀ x, (h ++ [x])[a]? = some (.inr (.inr (1, [.null, .int (I 0)]))) := fun x => (ap_l x (by omega)).trans ha
  have i6 : (I 6 = I ((6 : Nat) : Int)) = True := eq_true rfl
  refine Call.intro (by rfl) (Nat.le_of_ble_eq_true rfl) ?_
  refine G.eqL (L := [some (.ref _), none]) rfl ?_
  refine B_History_init_0 ?_
  simp only [wp_cons, wp_nil, List.getElem?_cons_zero, List.getElem?_cons_succ, List.set_cons_zero, List.set_cons_succ, s_aload_n0, ldA_r, ldA_n, ldA_s, s_invokespecial, pR_s, rc_s, List.drop_succ_cons, List.drop_zero, List.take_succ_cons, List.take_zero, List.reverse_cons, List.reverse_nil, List.nil_append, List.cons_append, List.length_cons, List.length_nil, Nat.reduceEqDiff, reduceIte, d1, Int.reduceToNat, Nat.reduceAdd, Nat.reduceLeDiff, s_bipush, s_anewarray, p1_s, s_putfield, pv_i, pv_z, pv_r, pv_f, ob_s, z_01, z_11, s_iconst, s_istore_n1, s1_0, s1_s, kx_i, kx_r, kx_s, kx_n, kx_l, kx_0, true_and, and_true, Nat.le_refl, true_implies, forall_const, not_false_eq_true, false_implies, not_true_eq_false, reduceCtorEq, tl_s, tl_n, rf_s, true_or, or_true, e1, hl, i6, Nat.reduceLT]
  refine loop 6 0 _ (fun _ => none) _ _ (by omega) (by omega) (by omega) (by rw [len_st, len_ap, hl]) (fun b hb => ?_) (h_at _ (e1 (.inr (.inl (3, 6, fun _ => none))))) ((h_ne _ (by omega)).trans (ap_r _ (by omega))) (fun j hj => absurd hj (by omega)) (fun j hj => absurd hj (by omega))
  rw [h_ne _ (by omega), ap_l _ (by omega)]
theorem Thinning_init_c {d a : Nat} (hd : 1 ≤ d) {h : g_H} {Q : g_Po} (ha : h[a]? = some (.inr (.inr (4, g_dflt 4)))) (hl : h.length = a + 1) (hQ : ∀ h', ext a 2 h h' → thnX h' a → Q none h') : Call Thinning_init d 1 31 [.ref a] h Q := by
  have d1 : 1 ≤ d := by omega
  have e0 : g_dflt 4 = [.null] := rfl
  rw [e0] at ha
  have e1 : ∀ x, (h ++ [x])[a]? = some (.inr (.inr (4, [.null]))) := fun x => (ap_l x (by omega)).trans ha
  have i31 : (I 31 = I ((31 : Nat) : Int)) = True := eq_true rfl
  refine Call.intro (by rfl) (Nat.le_of_ble_eq_true rfl) ?_
  refine G.eqL (L := [some (.ref _)]) rfl ?_
  refine B_Thinning_init_0 ?_
  simp only [wp_cons, wp_nil, List.getElem?_cons_zero, List.getElem?_cons_succ, List.set_cons_zero, List.set_cons_succ, s_aload_n0, ldA_r, ldA_n, ldA_s, s_invokespecial, pR_s, rc_s, List.drop_succ_cons, List.drop_zero, List.take_succ_cons, List.take_zero, List.reverse_cons, List.reverse_nil, List.nil_append, List.cons_append, List.length_cons, List.length_nil, Nat.reduceEqDiff, reduceIte, d1, Int.reduceToNat, Nat.reduceAdd, Nat.reduceLeDiff, s_bipush, s_newarray, p1_s, s_putfield, pv_i, pv_z, pv_r, pv_f, ob_s, z_01, z_11, s_return_, rt_Thinning_init, true_and, and_true, Nat.le_refl, true_implies, forall_const, not_false_eq_true, false_implies, not_true_eq_false, reduceCtorEq, tl_s, tl_n, rf_s, true_or, or_true, e1, hl, i31, Nat.reduceLT]
  have c2 : ∀ x v, ((h ++ [x]).set a v)[a + 1]? = some x := fun x v => (h_ne v (by omega)).trans (ap_r x (by omega))
  exact hQ _ ⟨by rw [len_st, len_ap, hl], fun b hb => (h_ne _ (by omega)).trans (ap_l _ (by omega))⟩ ⟨fun _ => 0, h_at _ (e1 _), c2 _ _, fun i hi => (by show -2 ≤ (0 : Int) ∧ (0 : Int) ≤ 200; omega)⟩
theorem Text_init_c {d a : Nat} (hd : 2 ≤ d) {h : g_H} {Q : g_Po} (ha : h[a]? = some (.inr (.inr (3, g_dflt 3)))) (hl : h.length = a + 1) (hQ : ∀ h', ext a 4 h h' → txt h' a [] → Q none h') : Call Text_init d 3 113 [.ref a] h Q := by
  have d1 : 1 ≤ d := by omega
  have e0 : g_dflt 3 = [.null, .null, .int (I 0)] := rfl
  rw [e0] at ha
  have e1 : ∀ x, (h ++ [x])[a]? = some (.inr (.inr (3, [.null, .null, .int (I 0)]))) := fun x => (ap_l x (by omega)).trans ha
  have e2 : ∀ x v, ((h ++ [x]).set a v).length = a + 2 := fun x v => by rw [len_st, len_ap, hl]
  have i80 : (I 80 = I ((80 : Nat) : Int)) = True := eq_true rfl
  refine Call.intro (by rfl) (Nat.le_of_ble_eq_true rfl) ?_
  refine G.eqL (L := [some (.ref _)]) rfl ?_
  refine B_Text_init_0 ?_
  simp only [wp_cons, wp_nil, List.getElem?_cons_zero, List.getElem?_cons_succ, List.set_cons_zero, List.set_cons_succ, s_aload_n0, ldA_r, ldA_n, ldA_s, s_invokespecial, pR_s, rc_s, List.drop_succ_cons, List.drop_zero, List.take_succ_cons, List.take_zero, List.reverse_cons, List.reverse_nil, List.nil_append, List.cons_append, List.length_cons, List.length_nil, Nat.reduceEqDiff, reduceIte, d1, Int.reduceToNat, Nat.reduceAdd, Nat.reduceLeDiff, s_bipush, s_newarray, p1_s, s_putfield, pv_i, pv_z, pv_r, pv_f, ob_s, z_01, z_11, s_new, s_dup, p1v_i, p1v_r, true_and, and_true, Nat.le_refl, true_implies, forall_const, not_false_eq_true, false_implies, not_true_eq_false, reduceCtorEq, tl_s, tl_n, rf_s, true_or, or_true, e1, e2, hl, i80, Nat.reduceLT]
  refine ⟨1, 30, by omega, by omega, ?_⟩
  refine Stroke_init_c (by omega) (ap_r _ (e2 (.inl (1, 80, fun _ => I 0)) _).symm) (by rw [len_ap, e2]) (fun h7 x7 s7 => ?_)
  have k2 : h7[a]? = some (.inr (.inr (3, [.ref (a + 1), .null, .int (I 0)]))) := (x7.2 a (by omega)).trans ((ap_l _ (by rw [e2]; omega)).trans (h_at _ (e1 _)))
  have k3 : h7[a + 1]? = some (.inl (1, 80, fun _ => I 0)) := (x7.2 _ (by omega)).trans ((ap_l _ (by rw [e2]; omega)).trans ((h_ne _ (by omega)).trans (ap_r _ (by omega))))
  have c2 : ∀ v, chg a (a + 1) h7 (h7.set a v) := fun v => chg.set _ (by omega)
  refine B_Text_init_20 ?_
  simp only [wp_cons, wp_nil, List.getElem?_cons_zero, List.getElem?_cons_succ, List.set_cons_zero, List.set_cons_succ, s_putfield, pv_i, pv_z, pv_r, pv_f, ob_s, z_01, z_11, List.length_cons, List.length_nil, s_return_, rt_Text_init, true_and, and_true, Nat.le_refl, true_implies, forall_const, not_false_eq_true, false_implies, not_true_eq_false, reduceCtorEq, tl_s, tl_n, rf_s, List.cons_append, List.nil_append, true_or, or_true, k2, Nat.reduceLT, Nat.reduceAdd, Nat.reduceLeDiff]
  refine hQ _ ⟨by rw [len_st, x7.1], fun b hb => ?_⟩ ⟨by simp, h_at _ k2, ⟨_, (h_ne _ (by omega)).trans k3, fun i hi => absurd hi (by simp)⟩, (s7.kp (c2 _) (by omega)).x⟩
  rw [h_ne _ (by omega), x7.2 b (by omega), ap_l _ (by rw [e2]; omega), h_ne _ (by omega), ap_l _ (by omega)]
theorem Wld_init_s {a : Nat} {h : g_H} {x : g_C} {fs fs' : List Value} {n : Nat} (hl : h.length = a + n) (ha : h[a]? = some (.inr (.inr (5, fs)))) (hn : 1 ≤ n) : ((h ++ [x]).set a (.inr (.inr (5, fs')))).length = a + (n + 1) ∧ ((h ++ [x]).set a (.inr (.inr (5, fs'))))[a]? = some (.inr (.inr (5, fs'))) ∧ ((h ++ [x]).set a (.inr (.inr (5, fs'))))[a + n]? = some x ∧ ∀ b, b ≠ a → b < a + n → ((h ++ [x]).set a (.inr (.inr (5, fs'))))[b]? = h[b]? :=
  ⟨by rw [len_st, len_ap, hl]; rfl, h_at _ ((ap_l _ (by omega)).trans ha), (h_ne _ (by omega)).trans (ap_r _ hl.symm), fun b h1 h2 => (h_ne _ (fun q => h1 q.symm)).trans (ap_l _ (by omega))⟩
theorem Welding_init_c {d a : Nat} (hd : 1 ≤ d) {h : g_H} {Q : g_Po} (ha : h[a]? = some (.inr (.inr (5, g_dflt 5)))) (hl : h.length = a + 1) (hQ : ∀ h', ext a 5 h h' → wlX h' a → Q none h') : Call Welding_init d 4 80 [.ref a] h Q := by
  have d1 : 1 ≤ d := by omega
  have e0 : g_dflt 5 = [.null, .null, .null, .null, .int (I 0)] := rfl
  rw [e0] at ha
  have i20 : (I 20 = I ((20 : Nat) : Int)) = True := eq_true rfl
  have f1 : ∀ x, (h ++ [x])[a]? = some (.inr (.inr (5, [.null, .null, .null, .null, .int (I 0)]))) := fun x => (ap_l x (by omega)).trans ha
  refine Call.intro (by rfl) (Nat.le_of_ble_eq_true rfl) ?_
  refine G.eqL (L := [some (.ref _)]) rfl ?_
  refine B_Welding_init_0 ?_
  simp only [wp_cons, wp_nil, List.getElem?_cons_zero, List.getElem?_cons_succ, List.set_cons_zero, List.set_cons_succ, s_aload_n0, ldA_r, ldA_n, ldA_s, s_invokespecial, pR_s, rc_s, List.drop_succ_cons, List.drop_zero, List.take_succ_cons, List.take_zero, List.reverse_cons, List.reverse_nil, List.nil_append, List.cons_append, List.length_cons, List.length_nil, Nat.reduceEqDiff, reduceIte, d1, Int.reduceToNat, Nat.reduceAdd, Nat.reduceLeDiff, s_bipush, s_newarray, p1_s, s_putfield, pv_i, pv_z, pv_r, pv_f, ob_s, z_01, z_11, true_and, and_true, Nat.le_refl, true_implies, forall_const, not_false_eq_true, false_implies, not_true_eq_false, reduceCtorEq, tl_s, tl_n, rf_s, true_or, or_true, f1, hl, i20, Nat.reduceLT]
  obtain ⟨l1, a1, x1, b1⟩ := Wld_init_s (x := .inl (0, 20, fun _ => I 0)) (fs' := [.ref (a + 1), .null, .null, .null, .int (I 0)]) hl ha (by omega)
  generalize hg1 : (h ++ [(Sum.inl (0, 20, fun _ => I 0) : g_C)]).set a (.inr (.inr (5, [.ref (a + 1), .null, .null, .null, .int (I 0)]))) = h1 at l1 a1 x1 b1
  replace l1 : h1.length = a + 2 := l1
  have f2 : ∀ x, (h1 ++ [x])[a]? = some (.inr (.inr (5, [.ref (a + 1), .null, .null, .null, .int (I 0)]))) := fun x => (ap_l x (by omega)).trans a1
  refine B_Welding_init_12 ?_
  simp only [wp_cons, wp_nil, List.getElem?_cons_zero, List.getElem?_cons_succ, List.set_cons_zero, List.set_cons_succ, s_aload_n0, ldA_r, ldA_n, ldA_s, s_bipush, s_newarray, p1_s, s_putfield, pv_i, pv_z, pv_r, pv_f, ob_s, z_01, z_11, List.length_cons, List.length_nil, true_and, and_true, Nat.le_refl, true_implies, forall_const, not_false_eq_true, false_implies, not_true_eq_false, reduceCtorEq, tl_s, tl_n, rf_s, List.cons_append, List.nil_append, true_or, or_true, f2, l1, i20, Nat.reduceLT, Nat.reduceAdd, Nat.reduceLeDiff]
  obtain ⟨l2, a2, x2, b2⟩ := Wld_init_s (x := .inl (0, 20, fun _ => I 0)) (fs' := [.ref (a + 1), .ref (a + 2), .null, .null, .int (I 0)]) l1 a1 (by omega)
  generalize hg2 : (h1 ++ [(Sum.inl (0, 20, fun _ => I 0) : g_C)]).set a (.inr (.inr (5, [.ref (a + 1), .ref (a + 2), .null, .null, .int (I 0)]))) = h2 at l2 a2 x2 b2
  replace l2 : h2.length = a + 3 := l2
  have f3 : ∀ x, (h2 ++ [x])[a]? = some (.inr (.inr (5, [.ref (a + 1), .ref (a + 2), .null, .null, .int (I 0)]))) := fun x => (ap_l x (by omega)).trans a2
  refine B_Welding_init_20 ?_
  simp only [wp_cons, wp_nil, List.getElem?_cons_zero, List.getElem?_cons_succ, List.set_cons_zero, List.set_cons_succ, s_aload_n0, ldA_r, ldA_n, ldA_s, s_bipush, s_newarray, p1_s, s_putfield, pv_i, pv_z, pv_r, pv_f, ob_s, z_01, z_11, List.length_cons, List.length_nil, true_and, and_true, Nat.le_refl, true_implies, forall_const, not_false_eq_true, false_implies, not_true_eq_false, reduceCtorEq, tl_s, tl_n, rf_s, List.cons_append, List.nil_append, true_or, or_true, f3, l2, i20, Nat.reduceLT, Nat.reduceAdd, Nat.reduceLeDiff]
  obtain ⟨l3, a3, x3, b3⟩ := Wld_init_s (x := .inl (0, 20, fun _ => I 0)) (fs' := [.ref (a + 1), .ref (a + 2), .ref (a + 3), .null, .int (I 0)]) l2 a2 (by omega)
  generalize hg3 : (h2 ++ [(Sum.inl (0, 20, fun _ => I 0) : g_C)]).set a (.inr (.inr (5, [.ref (a + 1), .ref (a + 2), .ref (a + 3), .null, .int (I 0)]))) = h3 at l3 a3 x3 b3
  replace l3 : h3.length = a + 4 := l3
  have f4 : ∀ x, (h3 ++ [x])[a]? = some (.inr (.inr (5, [.ref (a + 1), .ref (a + 2), .ref (a + 3), .null, .int (I 0)]))) := fun x => (ap_l x (by omega)).trans a3
  refine B_Welding_init_28 ?_
  simp only [wp_cons, wp_nil, List.getElem?_cons_zero, List.getElem?_cons_succ, List.set_cons_zero, List.set_cons_succ, s_aload_n0, ldA_r, ldA_n, ldA_s, s_bipush, s_newarray, p1_s, s_putfield, pv_i, pv_z, pv_r, pv_f, ob_s, z_01, z_11, List.length_cons, List.length_nil, true_and, and_true, Nat.le_refl, true_implies, forall_const, not_false_eq_true, false_implies, not_true_eq_false, reduceCtorEq, tl_s, tl_n, rf_s, List.cons_append, List.nil_append, true_or, or_true, f4, l3, i20, Nat.reduceLT, Nat.reduceAdd, Nat.reduceLeDiff]
  obtain ⟨l4, a4, x4, b4⟩ := Wld_init_s (x := .inl (0, 20, fun _ => I 0)) (fs' := [.ref (a + 1), .ref (a + 2), .ref (a + 3), .ref (a + 4), .int (I 0)]) l3 a3 (by omega)
  generalize hg4 : (h3 ++ [(Sum.inl (0, 20, fun _ => I 0) : g_C)]).set a (.inr (.inr (5, [.ref (a + 1), .ref (a + 2), .ref (a + 3), .ref (a + 4), .int (I 0)]))) = h4 at l4 a4 x4 b4
  replace l4 : h4.length = a + 5 := l4
  refine B_Welding_init_36 ?_
  simp only [wp_cons, wp_nil, List.getElem?_cons_zero, List.getElem?_cons_succ, List.set_cons_zero, List.set_cons_succ, s_return_, rt_Welding_init, true_and, and_true, Nat.le_refl, true_implies, forall_const, not_false_eq_true, false_implies, not_true_eq_false, reduceCtorEq, tl_s, tl_n, rf_s, List.cons_append, List.nil_append, true_or, or_true, Nat.reduceLeDiff]
  refine hQ h4 ⟨l4, fun b hb => by rw [b4 b (by omega) (by omega), b3 b (by omega) (by omega), b2 b (by omega) (by omega), b1 b (by omega) (by omega)]⟩ ⟨fun _ => 0, fun _ => 0, fun _ => 0, fun _ => 0, 0, a4, ?_, ?_, ?_, x4⟩
  · rw [b4 _ (by omega) (by omega), b3 _ (by omega) (by omega), b2 _ (by omega) (by omega)]; exact x1
  · rw [b4 _ (by omega) (by omega), b3 _ (by omega) (by omega)]; exact x2
  · rw [b4 _ (by omega) (by omega)]; exact x3
/-! the same cells in an interval -/
theorem stL.pw {h h' : g_H} {s : Nat} {S : Stk} (e : ∀ b, s ≤ b → b < s + 2 → h'[b]? = h[b]?) (q : stL h s S) : stL h' s S := by
  obtain ⟨g, ⟨g1, g2⟩, g3, g4⟩ := q
  exact ⟨g, ⟨(e _ (by omega) (by omega)).trans g1, (e _ (by omega) (by omega)).trans g2⟩, g3, g4⟩
theorem stX.pw {h h' : g_H} {s : Nat} (e : ∀ b, s ≤ b → b < s + 2 → h'[b]? = h[b]?) (q : stX h s) : stX h' s := by
  obtain ⟨n, z, g, g1, g2⟩ := q
  exact ⟨n, z, g, (e _ (by omega) (by omega)).trans g1, (e _ (by omega) (by omega)).trans g2⟩
theorem drw.pw {h h' : g_H} {s : Nat} {σ : Nat → Nat} {Ss : List Stk} {pn : Stk} (e : ∀ b, s ≤ b → b < s + 24 → h'[b]? = h[b]?) (q : drw h s σ Ss pn) : drw h' s σ Ss pn := by
  obtain ⟨b1, b2, ⟨b3, b4, b5⟩, b6, b7, b8, b9, b10⟩ := q
  exact ⟨b1, (e _ (by omega) (by omega)).trans b2, ⟨b3, (e _ (by omega) (by omega)).trans b4, b5⟩, b6.pw (fun b h1 h2 => e b (by omega) (by omega)), b7, b8, fun j hj => (b9 j hj).pw (fun b h1 h2 => by have := b7 j hj; exact e b (by omega) (by omega)), fun j hj => (b10 j hj).pw (fun b h1 h2 => by have := b7 j (by omega); exact e b (by omega) (by omega))⟩
theorem drL.pw {h h' : g_H} {s : Nat} {Ss : List Stk} {pn : Stk} (e : ∀ b, s ≤ b → b < s + 24 → h'[b]? = h[b]?) (q : drL h s Ss pn) : drL h' s Ss pn := by
  obtain ⟨σ, q⟩ := q
  exact ⟨σ, q.pw e⟩
theorem drX.pw {h h' : g_H} {s : Nat} (e : ∀ b, s ≤ b → b < s + 24 → h'[b]? = h[b]?) (q : drX h s) : drX h' s := by
  obtain ⟨σ, Ss, pn, q⟩ := q
  exact ⟨σ, Ss, pn, q.pw e⟩
theorem hisL.pw {h h' : g_H} {s : Nat} {Hs : List Sta} (e : ∀ b, s ≤ b → b < s + 146 → h'[b]? = h[b]?) (q : hisL h s Hs) : hisL h' s Hs := by
  obtain ⟨τ, a1, a2, ⟨f, a3, a4⟩, a5, a6, a7, a8⟩ := q
  exact ⟨τ, a1, (e _ (by omega) (by omega)).trans a2, ⟨f, (e _ (by omega) (by omega)).trans a3, a4⟩, a5, a6, fun i hi => (a7 i hi).pw (fun b h1 h2 => by have := a5 i hi; exact e b (by omega) (by omega)), fun i hi => (a8 i hi).pw (fun b h1 h2 => by have := a5 i (by omega); exact e b (by omega) (by omega))⟩
theorem thnX.pw {h h' : g_H} {s : Nat} (e : ∀ b, s ≤ b → b < s + 2 → h'[b]? = h[b]?) (q : thnX h s) : thnX h' s := by
  obtain ⟨g, a1, a2, a3⟩ := q
  exact ⟨g, (e _ (by omega) (by omega)).trans a1, (e _ (by omega) (by omega)).trans a2, a3⟩
theorem wlX.pw {h h' : g_H} {s : Nat} (e : ∀ b, s ≤ b → b < s + 5 → h'[b]? = h[b]?) (q : wlX h s) : wlX h' s := by
  obtain ⟨X, Y, B, Z, n, a1, a2, a3, a4, a5⟩ := q
  exact ⟨X, Y, B, Z, n, (e _ (by omega) (by omega)).trans a1, (e _ (by omega) (by omega)).trans a2, (e _ (by omega) (by omega)).trans a3, (e _ (by omega) (by omega)).trans a4, (e _ (by omega) (by omega)).trans a5⟩
theorem txt.pw {h h' : g_H} {s : Nat} {T : List Int} (e : ∀ b, s ≤ b → b < s + 4 → h'[b]? = h[b]?) (q : txt h s T) : txt h' s T := by
  obtain ⟨a1, a2, ⟨f, a3, a4⟩, a5⟩ := q
  exact ⟨a1, (e _ (by omega) (by omega)).trans a2, ⟨f, (e _ (by omega) (by omega)).trans a3, a4⟩, a5.pw (fun b h1 h2 => e b (by omega) (by omega))⟩
/-- one field of the object is set, a new cell is pushed, a constructor runs on it -/
theorem ini_s {P a n : Nat} {h h' : g_H} {x v u : g_C} (hl : h.length = a) (hP : P < a) (ha : h[P]? = some u) (hx : ext a n (h.set P v ++ [x]) h') : h'[P]? = some v ∧ ∀ b, b ≠ P → b < a → h'[b]? = h[b]? :=
  ⟨(hx.2 P hP).trans ((ap_l _ (by rw [len_st]; omega)).trans (h_at _ ha)), fun b h1 h2 => (hx.2 b h2).trans ((ap_l _ (by rw [len_st]; omega)).trans (h_ne _ (fun q => h1 q.symm)))⟩
theorem ini_a {P a : Nat} {h : g_H} {x v : g_C} (hl : h.length = a) : (h.set P v ++ [x])[a]? = some x ∧ (h.set P v ++ [x]).length = a + 1 := ⟨ap_r _ (by rw [len_st, hl]), by rw [len_ap, len_st, hl]⟩
def W0 : Wd := (([], ([], false)), [], [], (-6, -6, -6))
theorem Pens_init_c {d P : Nat} (hd : 8 ≤ d) {h : g_H} {Q : g_Po} (ha : h[P]? = some (.inr (.inr (6, g_dflt 6)))) (hl : h.length = P + 1) (hQ : ∀ h', ext P 208 h h' → pens h' P W0 → Q none h') : Call Pens_init d 207 3282 [.ref P] h Q := by
  have d1 : 1 ≤ d := by omega
  have e0 : g_dflt 6 = [.null, .null, .null, .null, .null, .null, .null, .int (I 0), .int (I 0), .int (I 0)] := rfl
  rw [e0] at ha
  refine Call.intro (by rfl) (Nat.le_of_ble_eq_true rfl) ?_
  refine G.eqL (L := [some (.ref _)]) rfl ?_
  refine B_Pens_init_0 ?_
  simp only [wp_cons, wp_nil, List.getElem?_cons_zero, List.getElem?_cons_succ, List.set_cons_zero, List.set_cons_succ, s_aload_n0, ldA_r, ldA_n, ldA_s, s_invokespecial, pR_s, rc_s, List.drop_succ_cons, List.drop_zero, List.take_succ_cons, List.take_zero, List.reverse_cons, List.reverse_nil, List.nil_append, List.cons_append, List.length_cons, List.length_nil, Nat.reduceEqDiff, reduceIte, d1, Int.reduceToNat, Nat.reduceAdd, Nat.reduceLeDiff, s_new, s_dup, p1v_i, p1v_r, true_and, and_true, Nat.le_refl, true_implies, forall_const, not_false_eq_true, false_implies, not_true_eq_false, reduceCtorEq, tl_s, tl_n, rf_s, true_or, or_true, ha, hl, Nat.reduceLT]
  refine ⟨23, 373, by omega, by omega, ?_⟩
  refine Drawing_init_c (by omega) (ap_r _ hl.symm) (by rw [len_ap, hl]) (fun h1 x1 s1 => ?_)
  have l1 : h1.length = P + 25 := x1.1
  have o1 := (x1.2 P (by omega)).trans ((ap_l _ (by omega)).trans ha)
  have u1 : ∀ b, b < P → h1[b]? = h[b]? := fun b hb => (x1.2 b (by omega)).trans (ap_l _ (by omega))
  refine B_Pens_init_12 ?_
  simp only [wp_cons, wp_nil, List.getElem?_cons_zero, List.getElem?_cons_succ, List.set_cons_zero, List.set_cons_succ, s_putfield, pv_i, pv_z, pv_r, pv_f, ob_s, z_01, z_11, List.length_cons, List.length_nil, s_aload_n0, ldA_r, ldA_n, ldA_s, s_new, s_dup, p1v_i, p1v_r, s_invokespecial, pR_s, rc_s, List.drop_succ_cons, List.drop_zero, List.take_succ_cons, List.take_zero, List.reverse_cons, List.reverse_nil, List.nil_append, List.cons_append, Nat.reduceEqDiff, reduceIte, d1, Int.reduceToNat, Nat.reduceAdd, Nat.reduceLeDiff, true_and, and_true, Nat.le_refl, true_implies, forall_const, not_false_eq_true, false_implies, not_true_eq_false, reduceCtorEq, tl_s, tl_n, rf_s, true_or, or_true, o1, l1, len_st, Nat.reduceLT]
  refine ⟨23, 373, by omega, by omega, ?_⟩
  refine Drawing_init_c (by omega) (ini_a l1).1 (ini_a l1).2 (fun h2 x2 s2 => ?_)
  have l2 : h2.length = P + 49 := x2.1
  obtain ⟨o2, u2⟩ := ini_s l1 (by omega) o1 x2
  refine B_Pens_init_23 ?_
  simp only [wp_cons, wp_nil, List.getElem?_cons_zero, List.getElem?_cons_succ, List.set_cons_zero, List.set_cons_succ, s_putfield, pv_i, pv_z, pv_r, pv_f, ob_s, z_01, z_11, List.length_cons, List.length_nil, s_aload_n0, ldA_r, ldA_n, ldA_s, s_new, s_dup, p1v_i, p1v_r, s_invokespecial, pR_s, rc_s, List.drop_succ_cons, List.drop_zero, List.take_succ_cons, List.take_zero, List.reverse_cons, List.reverse_nil, List.nil_append, List.cons_append, Nat.reduceEqDiff, reduceIte, d1, Int.reduceToNat, Nat.reduceAdd, Nat.reduceLeDiff, true_and, and_true, Nat.le_refl, true_implies, forall_const, not_false_eq_true, false_implies, not_true_eq_false, reduceCtorEq, tl_s, tl_n, rf_s, true_or, or_true, o2, l2, len_st, Nat.reduceLT]
  refine ⟨1, 30, by omega, by omega, ?_⟩
  refine Stroke_init_c (by omega) (ini_a l2).1 (ini_a l2).2 (fun h3 x3 s3 => ?_)
  have l3 : h3.length = P + 51 := x3.1
  obtain ⟨o3, u3⟩ := ini_s l2 (by omega) o2 x3
  refine B_Pens_init_34 ?_
  simp only [wp_cons, wp_nil, List.getElem?_cons_zero, List.getElem?_cons_succ, List.set_cons_zero, List.set_cons_succ, s_putfield, pv_i, pv_z, pv_r, pv_f, ob_s, z_01, z_11, List.length_cons, List.length_nil, s_aload_n0, ldA_r, ldA_n, ldA_s, s_new, s_dup, p1v_i, p1v_r, s_invokespecial, pR_s, rc_s, List.drop_succ_cons, List.drop_zero, List.take_succ_cons, List.take_zero, List.reverse_cons, List.reverse_nil, List.nil_append, List.cons_append, Nat.reduceEqDiff, reduceIte, d1, Int.reduceToNat, Nat.reduceAdd, Nat.reduceLeDiff, true_and, and_true, Nat.le_refl, true_implies, forall_const, not_false_eq_true, false_implies, not_true_eq_false, reduceCtorEq, tl_s, tl_n, rf_s, true_or, or_true, o3, l3, len_st, Nat.reduceLT]
  refine ⟨145, 2262, by omega, by omega, ?_⟩
  refine History_init_c (by omega) (ini_a l3).1 (ini_a l3).2 (fun h4 x4 s4 => ?_)
  have l4 : h4.length = P + 197 := x4.1
  obtain ⟨o4, u4⟩ := ini_s l3 (by omega) o3 x4
  refine B_Pens_init_45 ?_
  simp only [wp_cons, wp_nil, List.getElem?_cons_zero, List.getElem?_cons_succ, List.set_cons_zero, List.set_cons_succ, s_putfield, pv_i, pv_z, pv_r, pv_f, ob_s, z_01, z_11, List.length_cons, List.length_nil, s_aload_n0, ldA_r, ldA_n, ldA_s, s_new, s_dup, p1v_i, p1v_r, s_invokespecial, pR_s, rc_s, List.drop_succ_cons, List.drop_zero, List.take_succ_cons, List.take_zero, List.reverse_cons, List.reverse_nil, List.nil_append, List.cons_append, Nat.reduceEqDiff, reduceIte, d1, Int.reduceToNat, Nat.reduceAdd, Nat.reduceLeDiff, true_and, and_true, Nat.le_refl, true_implies, forall_const, not_false_eq_true, false_implies, not_true_eq_false, reduceCtorEq, tl_s, tl_n, rf_s, true_or, or_true, o4, l4, len_st, Nat.reduceLT]
  refine ⟨1, 31, by omega, by omega, ?_⟩
  refine Thinning_init_c (by omega) (ini_a l4).1 (ini_a l4).2 (fun h5 x5 s5 => ?_)
  have l5 : h5.length = P + 199 := x5.1
  obtain ⟨o5, u5⟩ := ini_s l4 (by omega) o4 x5
  refine B_Pens_init_56 ?_
  simp only [wp_cons, wp_nil, List.getElem?_cons_zero, List.getElem?_cons_succ, List.set_cons_zero, List.set_cons_succ, s_putfield, pv_i, pv_z, pv_r, pv_f, ob_s, z_01, z_11, List.length_cons, List.length_nil, s_aload_n0, ldA_r, ldA_n, ldA_s, s_new, s_dup, p1v_i, p1v_r, s_invokespecial, pR_s, rc_s, List.drop_succ_cons, List.drop_zero, List.take_succ_cons, List.take_zero, List.reverse_cons, List.reverse_nil, List.nil_append, List.cons_append, Nat.reduceEqDiff, reduceIte, d1, Int.reduceToNat, Nat.reduceAdd, Nat.reduceLeDiff, true_and, and_true, Nat.le_refl, true_implies, forall_const, not_false_eq_true, false_implies, not_true_eq_false, reduceCtorEq, tl_s, tl_n, rf_s, true_or, or_true, o5, l5, len_st, Nat.reduceLT]
  refine ⟨4, 80, by omega, by omega, ?_⟩
  refine Welding_init_c (by omega) (ini_a l5).1 (ini_a l5).2 (fun h6 x6 s6 => ?_)
  have l6 : h6.length = P + 204 := x6.1
  obtain ⟨o6, u6⟩ := ini_s l5 (by omega) o5 x6
  refine B_Pens_init_67 ?_
  simp only [wp_cons, wp_nil, List.getElem?_cons_zero, List.getElem?_cons_succ, List.set_cons_zero, List.set_cons_succ, s_putfield, pv_i, pv_z, pv_r, pv_f, ob_s, z_01, z_11, List.length_cons, List.length_nil, s_aload_n0, ldA_r, ldA_n, ldA_s, s_new, s_dup, p1v_i, p1v_r, s_invokespecial, pR_s, rc_s, List.drop_succ_cons, List.drop_zero, List.take_succ_cons, List.take_zero, List.reverse_cons, List.reverse_nil, List.nil_append, List.cons_append, Nat.reduceEqDiff, reduceIte, d1, Int.reduceToNat, Nat.reduceAdd, Nat.reduceLeDiff, true_and, and_true, Nat.le_refl, true_implies, forall_const, not_false_eq_true, false_implies, not_true_eq_false, reduceCtorEq, tl_s, tl_n, rf_s, true_or, or_true, o6, l6, len_st, Nat.reduceLT]
  refine ⟨3, 113, by omega, by omega, ?_⟩
  refine Text_init_c (by omega) (ini_a l6).1 (ini_a l6).2 (fun h7 x7 s7 => ?_)
  have l7 : h7.length = P + 208 := x7.1
  obtain ⟨o7, u7⟩ := ini_s l6 (by omega) o6 x7
  have e1 := fun v => h_at v o7
  have e2 : ∀ v v' : g_C, ((h7.set P v).set P v')[P]? = some v' := fun v v' => h_at v' (e1 v)
  have e3 : ∀ v v' v'' : g_C, (((h7.set P v).set P v').set P v'')[P]? = some v'' := fun v v' v'' => h_at v'' (e2 v v')
  refine B_Pens_init_78 ?_
  simp only [wp_cons, wp_nil, List.getElem?_cons_zero, List.getElem?_cons_succ, List.set_cons_zero, List.set_cons_succ, s_putfield, pv_i, pv_z, pv_r, pv_f, ob_s, z_01, z_11, List.length_cons, List.length_nil, s_aload_n0, ldA_r, ldA_n, ldA_s, s_bipush, s_return_, rt_Pens_init, true_and, and_true, Nat.le_refl, true_implies, forall_const, not_false_eq_true, false_implies, not_true_eq_false, reduceCtorEq, tl_s, tl_n, rf_s, List.cons_append, List.nil_append, true_or, or_true, o7, e1, e2, e3, Nat.reduceLT, Nat.reduceAdd, Nat.reduceLeDiff]
  have c1 : ∀ v v' v'' v3 : g_C, chg P (P + 1) h7 ((((h7.set P v).set P v').set P v'').set P v3) := fun v v' v'' v3 => (((chg.set _ (by omega)).tr (chg.set _ (by omega))).tr (chg.set _ (by omega))).tr (chg.set _ (by omega))
  have k6 : ∀ b, P < b → b < P + 204 → h7[b]? = h6[b]? := fun b h1 h2 => u7 b (by omega) h2
  have k5 : ∀ b, P < b → b < P + 199 → h7[b]? = h5[b]? := fun b h1 h2 => (k6 b h1 (by omega)).trans (u6 b (by omega) h2)
  have k4 : ∀ b, P < b → b < P + 197 → h7[b]? = h4[b]? := fun b h1 h2 => (k5 b h1 (by omega)).trans (u5 b (by omega) h2)
  have k3 : ∀ b, P < b → b < P + 51 → h7[b]? = h3[b]? := fun b h1 h2 => (k4 b h1 (by omega)).trans (u4 b (by omega) h2)
  have k2 : ∀ b, P < b → b < P + 49 → h7[b]? = h2[b]? := fun b h1 h2 => (k3 b h1 (by omega)).trans (u3 b (by omega) h2)
  have k1 : ∀ b, P < b → b < P + 25 → h7[b]? = h1[b]? := fun b h1 h2 => (k2 b h1 (by omega)).trans (u2 b (by omega) h2)
  obtain ⟨σ, s1⟩ := s1
  refine hQ _ ⟨(c1 _ _ _ _).1.trans l7, fun b hb => ?_⟩ ⟨σ, h_at _ (e3 _ _ _), (s1.pw (fun b h1 h2 => k1 b (by omega) (by omega))).kp (c1 _ _ _ _) (by omega), (s2.x.pw (fun b h1 h2 => k2 b (by omega) (by omega))).kp (c1 _ _ _ _) (by omega), (s3.x.pw (fun b h1 h2 => k3 b (by omega) (by omega))).kp (c1 _ _ _ _) (by omega), (s4.pw (fun b h1 h2 => k4 b (by omega) (by omega))).kp (c1 _ _ _ _) (by omega), (s5.pw (fun b h1 h2 => k5 b (by omega) (by omega))).kp (c1 _ _ _ _) (by omega), (s6.pw (fun b h1 h2 => k6 b (by omega) (by omega))).kp (c1 _ _ _ _) (by omega), s7.kp (c1 _ _ _ _) (by omega)⟩
  rw [(c1 _ _ _ _).at (by omega), u7 b (by omega) (by omega), u6 b (by omega) (by omega), u5 b (by omega) (by omega), u4 b (by omega) (by omega), u3 b (by omega) (by omega), u2 b (by omega) (by omega), u1 b hb]
