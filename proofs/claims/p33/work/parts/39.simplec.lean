/-! ===== the law: simple, the last look; the whole ===== -/
theorem pick_pre (f : Nat → Bool) (l : List Int) : ∀ d k i : Nat, i < (pick f l k).length → pg (pick f l (k + d)) i = pg (pick f l k) i ∧ (pick f l k).length ≤ (pick f l (k + d)).length := by
  intro d
  induction d with
  | zero => intro k i h; exact ⟨rfl, Nat.le_refl _⟩
  | succ d ih =>
    intro k i h
    obtain ⟨h1, h2⟩ := ih k i h
    have e : pick f l (k + d + 1) = pick f l (k + d) ++ (if f (k + d) = true then [pg l (k + d)] else []) := rfl
    show pg (pick f l (k + d + 1)) i = _ ∧ _ ≤ (pick f l (k + d + 1)).length
    rw [e, pg_app_l _ _ (by omega), List.length_append]
    exact ⟨h1, by omega⟩
def pbit (m : Nat) (l : List Int) (k : Nat) : List Int := pick (fun i => m.testBit i) l k
theorem pbit_t {m k : Nat} (l : List Int) (h : m.testBit k = true) : pbit m l (k + 1) = pbit m l k ++ [pg l k] := by
  show pick _ _ _ ++ _ = _
  rw [if_pos h]; rfl
theorem pbit_f {m k : Nat} (l : List Int) (h : ¬ m.testBit k = true) : pbit m l (k + 1) = pbit m l k := by
  show pick _ _ _ ++ _ = _
  rw [if_neg h, List.append_nil]; rfl
theorem pbit_pic {S : Stk} {t : Int} {m : Nat} (hb : ∀ k, k < S.1.length → (m.testBit k = true ↔ t ≤ levS S k)) : pbit m S.1 S.1.length = picS S t := by
  unfold pbit picS
  refine pick_cg _ _ _ _ (fun k hk => ?_)
  rw [Bool.eq_iff_iff, hb k hk, decide_eq_true_eq]
/-- what is known behind the first k points: the last and the first that stay, how many -/
def linv (m : Nat) (l : List Int) (k : Nat) (la fi ma : Int) : Prop := ma = ((pbit m l k).length : Int) ∧ (∀ i, 1 ≤ i → i < (pbit m l k).length → pg (pbit m l k) i ≠ pg (pbit m l k) (i - 1)) ∧ ((k = 0 ∧ la = -1 ∧ fi = -1) ∨ (1 ≤ k ∧ fi = 0 ∧ 1 ≤ (pbit m l k).length ∧ pg (pbit m l k) 0 = pg l 0 ∧ ∃ j : Nat, j < k ∧ la = j ∧ pg l j = pg (pbit m l k) ((pbit m l k).length - 1)))
theorem linv.skip {m : Nat} {l : List Int} {k : Nat} {la fi ma : Int} (h : linv m l k la fi ma) (h0 : m.testBit 0 = true) (hk : ¬ m.testBit k = true) : linv m l (k + 1) la fi ma := by
  obtain ⟨h1, h2, h3⟩ := h
  unfold linv
  rw [pbit_f l hk]
  refine ⟨h1, h2, ?_⟩
  rcases h3 with ⟨a1, a2, a3⟩ | ⟨a1, a2, a3, a4, j, a5, a6, a7⟩
  · rw [a1] at hk; exact absurd h0 hk
  · exact Or.inr ⟨by omega, a2, a3, a4, j, by omega, a6, a7⟩
theorem linv.take {m : Nat} {l : List Int} {k : Nat} {la fi ma : Int} (h : linv m l k la fi ma) (hk : m.testBit k = true) (hn : ∀ j : Nat, la = j → pg l j ≠ pg l k) : linv m l (k + 1) k (if fi < 0 then k else fi) (ma + 1) := by
  obtain ⟨h1, h2, h3⟩ := h
  unfold linv
  rw [pbit_t l hk]
  have hlen : (pbit m l k ++ [pg l k]).length = (pbit m l k).length + 1 := by simp
  have hlast : pg (pbit m l k ++ [pg l k]) (pbit m l k).length = pg l k := by rw [pg_app_r _ _ (Nat.le_refl _), Nat.sub_self]; rfl
  rw [hlen]
  rcases h3 with ⟨a1, a2, a3⟩ | ⟨a1, a2, a3, a4, j, a5, a6, a7⟩
  · subst a1
    have e0 : pbit m l 0 = [] := rfl
    refine ⟨by rw [h1]; omega, fun i i1 i2 => ?_, Or.inr ⟨by omega, ?_, by omega, ?_, 0, by omega, rfl, ?_⟩⟩
    · rw [e0] at i2; simp at i2; omega
    · rw [if_pos (by omega)]; rfl
    · rw [e0]; rfl
    · rw [e0]; rfl
  · refine ⟨by rw [h1]; omega, fun i i1 i2 => ?_, Or.inr ⟨by omega, ?_, by omega, ?_, k, by omega, rfl, ?_⟩⟩
    · by_cases e : i = (pbit m l k).length
      · rw [e, hlast, pg_app_l _ _ (by omega), ← a7]
        exact fun q => hn j a6 q.symm
      · rw [pg_app_l _ _ (by omega), pg_app_l _ _ (by omega)]
        exact h2 i i1 (by omega)
    · rw [if_neg (by omega)]; exact a2
    · rw [pg_app_l _ _ (by omega)]; exact a4
    · rw [Nat.add_sub_cancel, hlast]
theorem smp_full {S : Stk} {t : Int} (h : rep (picS S t, S.2) ≠ -6 ∨ (S.2 = true ∧ (picS S t).length < 3)) : smpS S t = S := by
  unfold smpS
  rw [if_pos h]
theorem smp_pic {S : Stk} {t : Int} (h : rep (picS S t, S.2) = -6) (h2 : ¬ (S.2 = true ∧ (picS S t).length < 3)) : smpS S t = (picS S t, S.2) := by
  unfold smpS
  rw [if_neg (fun q => q.elim (fun q => q h) h2)]
theorem Simple_last {d : Nat} (hd : 3 ≤ d) {S : Stk} {a : Nat} {t : Int} {f : Nat → Int} {h : g_H} {Q : g_Po} (wS : wfS S) (ht : 0 ≤ t ∧ t ≤ 200) (har : ary h a 32 f) (tk : tkn S f) {m : Nat} (hv : sinv S t m) (hb : ∀ k, k < S.1.length → (m.testBit k = true ↔ t ≤ levS S k)) (hQ : ∀ r : Nat, sgood S t r → Q (some (.int (I (r : Int)))) h) {z5 z6 : Int32} {x11 x12 x13 x14 x15 x16 : Option Value} : ∀ (j k : Nat) (la fi ma : Int), k + j = S.1.length → linv m S.1 k la fi ma → G Law_simple d 0 0 0 0 309 [some (.ref a), some (.int (I (S.1.length : Int))), some (.int (I (sz S.2))), some (.int (I t)), some (.int (I (m : Int))), some (.int z5), some (.int z6), some (.int (I la)), some (.int (I fi)), some (.int (I ma)), some (.int (I (k : Int))), x11, x12, x13, x14, x15, x16] [] h Q := by
  have d1 : 1 ≤ d := by omega
  have hpc : pcs S ≤ S.1.length := pcs_le
  have w1 := wS.1
  have w2 := wS.2.1
  have w3 := wS.2.2.1
  have har' : h[a]? = some (.inl (0, 32, fun i => I (f i))) := har
  have hml := hv.lt wS
  have hful := I_full (show S.1.length < 31 by omega)
  have hpic := pbit_pic hb
  intro j
  induction j with
  | zero =>
    intro k la fi ma hk hi
    obtain rfl : k = S.1.length := by omega
    obtain ⟨i1, i2, i3⟩ := hi
    rw [hpic] at i1 i2 i3
    have i4 : fi = 0 ∧ 1 ≤ (picS S t).length ∧ pg (picS S t) 0 = pg S.1 0 ∧ ∃ q : Nat, q < S.1.length ∧ la = q ∧ pg S.1 q = pg (picS S t) ((picS S t).length - 1) := by
      rcases i3 with x | x
      · omega
      · exact x.2
    obtain ⟨rfl, i5, i6, q, i7, rfl, i8⟩ := i4
    have hpl : (picS S t).length ≤ S.1.length := pick_len _ _ _
    have hno : (∀ k, 1 ≤ k → k < (picS S t).length → pg (picS S t) k ≠ pg (picS S t) (k - 1)) := i2
    subst i1
    by_cases z : S.2 = true
    · have ez : sz S.2 = 1 := if_pos z
      rw [ez]
      by_cases c1 : (picS S t).length < 3
      · refine B_Law_simple_309 ?_
        simp only [wp_cons, wp_nil, List.getElem?_cons_zero, List.getElem?_cons_succ, List.set_cons_zero, List.set_cons_succ, s_iload, ldI_s, s_iload_n1, s_if_icmp_ge, p2_s, true_and, and_true, Nat.le_refl, true_implies, forall_const, not_false_eq_true, false_implies, not_true_eq_false, reduceCtorEq, tl_s, tl_n, rf_s, List.cons_append, List.nil_append, true_or, or_true, har', ex_ie (x := 0) (i := 0) (n := 32) rfl (by omega), ex_ix (i := q) (n := 32) (by omega), tk.k (k := 0) (by omega), tk.k (k := q) (by omega), hful]
        refine b_le (by omega) (by omega) (fun cc => ?_) (fun cc => absurd cc (by omega))
        refine B_Law_simple_377 ?_
        simp only [wp_cons, wp_nil, List.getElem?_cons_zero, List.getElem?_cons_succ, List.set_cons_zero, List.set_cons_succ, s_iload_n2, ldI_s, s_ifCond_eq, p1_s, true_and, and_true, Nat.le_refl, true_implies, forall_const, not_false_eq_true, false_implies, not_true_eq_false, reduceCtorEq, tl_s, tl_n, rf_s, List.cons_append, List.nil_append, true_or, or_true, har', ex_ie (x := 0) (i := 0) (n := 32) rfl (by omega), ex_ix (i := q) (n := 32) (by omega), tk.k (k := 0) (by omega), tk.k (k := q) (by omega), hful]
        refine b_eq (by omega) (by omega) (fun cc => absurd cc (by omega)) (fun cc => ?_)
        refine B_Law_simple_381 ?_
        simp only [wp_cons, wp_nil, List.getElem?_cons_zero, List.getElem?_cons_succ, List.set_cons_zero, List.set_cons_succ, s_iload, ldI_s, s_iconst, s_if_icmp_lt, p2_s, true_and, and_true, Nat.le_refl, true_implies, forall_const, not_false_eq_true, false_implies, not_true_eq_false, reduceCtorEq, tl_s, tl_n, rf_s, List.cons_append, List.nil_append, true_or, or_true, har', ex_ie (x := 0) (i := 0) (n := 32) rfl (by omega), ex_ix (i := q) (n := 32) (by omega), tk.k (k := 0) (by omega), tk.k (k := q) (by omega), hful]
        refine b_lt (by omega) (by omega) (fun cc => ?_) (fun cc => absurd cc (by omega))
        refine B_Law_simple_398 ?_
        simp only [wp_cons, wp_nil, List.getElem?_cons_zero, List.getElem?_cons_succ, List.set_cons_zero, List.set_cons_succ, s_iconst, s_iload_n1, ldI_s, s_ishl, p2_s, s_isub, I_sub, s_goto, true_and, and_true, Nat.le_refl, true_implies, forall_const, not_false_eq_true, false_implies, not_true_eq_false, reduceCtorEq, tl_s, tl_n, rf_s, List.cons_append, List.nil_append, true_or, or_true, har', ex_ie (x := 0) (i := 0) (n := 32) rfl (by omega), ex_ix (i := q) (n := 32) (by omega), tk.k (k := 0) (by omega), tk.k (k := q) (by omega), hful]
        refine B_Law_simple_408 ?_
        simp only [wp_cons, wp_nil, List.getElem?_cons_zero, List.getElem?_cons_succ, List.set_cons_zero, List.set_cons_succ, s_ireturn, p1_s, rI_i, rI_z, rI_c, z_01, z_11, rt_Law_simple, true_and, and_true, Nat.le_refl, true_implies, forall_const, not_false_eq_true, false_implies, not_true_eq_false, reduceCtorEq, tl_s, tl_n, rf_s, List.cons_append, List.nil_append, true_or, or_true, har', ex_ie (x := 0) (i := 0) (n := 32) rfl (by omega), ex_ix (i := q) (n := 32) (by omega), tk.k (k := 0) (by omega), tk.k (k := q) (by omega), hful]
        exact hQ _ (sgood_full wS (smp_full (Or.inr ⟨z, c1⟩)))
      · have p1 := w3 0 (by omega)
        have p2 := w3 q (by omega)
        by_cases c2 : pg S.1 0 = pg S.1 q
        · refine B_Law_simple_309 ?_
          simp only [wp_cons, wp_nil, List.getElem?_cons_zero, List.getElem?_cons_succ, List.set_cons_zero, List.set_cons_succ, s_iload, ldI_s, s_iload_n1, s_if_icmp_ge, p2_s, true_and, and_true, Nat.le_refl, true_implies, forall_const, not_false_eq_true, false_implies, not_true_eq_false, reduceCtorEq, tl_s, tl_n, rf_s, List.cons_append, List.nil_append, true_or, or_true, har', ex_ie (x := 0) (i := 0) (n := 32) rfl (by omega), ex_ix (i := q) (n := 32) (by omega), tk.k (k := 0) (by omega), tk.k (k := q) (by omega), hful]
          refine b_le (by omega) (by omega) (fun cc => ?_) (fun cc => absurd cc (by omega))
          refine B_Law_simple_377 ?_
          simp only [wp_cons, wp_nil, List.getElem?_cons_zero, List.getElem?_cons_succ, List.set_cons_zero, List.set_cons_succ, s_iload_n2, ldI_s, s_ifCond_eq, p1_s, true_and, and_true, Nat.le_refl, true_implies, forall_const, not_false_eq_true, false_implies, not_true_eq_false, reduceCtorEq, tl_s, tl_n, rf_s, List.cons_append, List.nil_append, true_or, or_true, har', ex_ie (x := 0) (i := 0) (n := 32) rfl (by omega), ex_ix (i := q) (n := 32) (by omega), tk.k (k := 0) (by omega), tk.k (k := q) (by omega), hful]
          refine b_eq (by omega) (by omega) (fun cc => absurd cc (by omega)) (fun cc => ?_)
          refine B_Law_simple_381 ?_
          simp only [wp_cons, wp_nil, List.getElem?_cons_zero, List.getElem?_cons_succ, List.set_cons_zero, List.set_cons_succ, s_iload, ldI_s, s_iconst, s_if_icmp_lt, p2_s, true_and, and_true, Nat.le_refl, true_implies, forall_const, not_false_eq_true, false_implies, not_true_eq_false, reduceCtorEq, tl_s, tl_n, rf_s, List.cons_append, List.nil_append, true_or, or_true, har', ex_ie (x := 0) (i := 0) (n := 32) rfl (by omega), ex_ix (i := q) (n := 32) (by omega), tk.k (k := 0) (by omega), tk.k (k := q) (by omega), hful]
          refine b_lt (by omega) (by omega) (fun cc => absurd cc (by omega)) (fun cc => ?_)
          refine B_Law_simple_387 ?_
          simp only [wp_cons, wp_nil, List.getElem?_cons_zero, List.getElem?_cons_succ, List.set_cons_zero, List.set_cons_succ, s_aload_n0, ldA_r, ldA_n, ldA_s, s_iload, ldI_s, s_iaload, iR_s, ia_s, s_if_icmp_ne, p2_s, true_and, and_true, Nat.le_refl, true_implies, forall_const, not_false_eq_true, false_implies, not_true_eq_false, reduceCtorEq, tl_s, tl_n, rf_s, List.cons_append, List.nil_append, true_or, or_true, har', ex_ie (x := 0) (i := 0) (n := 32) rfl (by omega), ex_ix (i := q) (n := 32) (by omega), tk.k (k := 0) (by omega), tk.k (k := q) (by omega), hful]
          refine b_ne (by omega) (by omega) (fun cc => absurd cc (by omega)) (fun cc => ?_)
          refine B_Law_simple_398 ?_
          simp only [wp_cons, wp_nil, List.getElem?_cons_zero, List.getElem?_cons_succ, List.set_cons_zero, List.set_cons_succ, s_iconst, s_iload_n1, ldI_s, s_ishl, p2_s, s_isub, I_sub, s_goto, true_and, and_true, Nat.le_refl, true_implies, forall_const, not_false_eq_true, false_implies, not_true_eq_false, reduceCtorEq, tl_s, tl_n, rf_s, List.cons_append, List.nil_append, true_or, or_true, har', ex_ie (x := 0) (i := 0) (n := 32) rfl (by omega), ex_ix (i := q) (n := 32) (by omega), tk.k (k := 0) (by omega), tk.k (k := q) (by omega), hful]
          refine B_Law_simple_408 ?_
          simp only [wp_cons, wp_nil, List.getElem?_cons_zero, List.getElem?_cons_succ, List.set_cons_zero, List.set_cons_succ, s_ireturn, p1_s, rI_i, rI_z, rI_c, z_01, z_11, rt_Law_simple, true_and, and_true, Nat.le_refl, true_implies, forall_const, not_false_eq_true, false_implies, not_true_eq_false, reduceCtorEq, tl_s, tl_n, rf_s, List.cons_append, List.nil_append, true_or, or_true, har', ex_ie (x := 0) (i := 0) (n := 32) rfl (by omega), ex_ix (i := q) (n := 32) (by omega), tk.k (k := 0) (by omega), tk.k (k := q) (by omega), hful]
          refine hQ _ (sgood_full wS (smp_full (Or.inl (fun e => (rep_no.mp e).2 ⟨z, ?_⟩))))
          show pg (picS S t) 0 = pg (picS S t) ((picS S t).length - 1)
          rw [i6, c2, i8]
        · refine B_Law_simple_309 ?_
          simp only [wp_cons, wp_nil, List.getElem?_cons_zero, List.getElem?_cons_succ, List.set_cons_zero, List.set_cons_succ, s_iload, ldI_s, s_iload_n1, s_if_icmp_ge, p2_s, true_and, and_true, Nat.le_refl, true_implies, forall_const, not_false_eq_true, false_implies, not_true_eq_false, reduceCtorEq, tl_s, tl_n, rf_s, List.cons_append, List.nil_append, true_or, or_true, har', ex_ie (x := 0) (i := 0) (n := 32) rfl (by omega), ex_ix (i := q) (n := 32) (by omega), tk.k (k := 0) (by omega), tk.k (k := q) (by omega), hful]
          refine b_le (by omega) (by omega) (fun cc => ?_) (fun cc => absurd cc (by omega))
          refine B_Law_simple_377 ?_
          simp only [wp_cons, wp_nil, List.getElem?_cons_zero, List.getElem?_cons_succ, List.set_cons_zero, List.set_cons_succ, s_iload_n2, ldI_s, s_ifCond_eq, p1_s, true_and, and_true, Nat.le_refl, true_implies, forall_const, not_false_eq_true, false_implies, not_true_eq_false, reduceCtorEq, tl_s, tl_n, rf_s, List.cons_append, List.nil_append, true_or, or_true, har', ex_ie (x := 0) (i := 0) (n := 32) rfl (by omega), ex_ix (i := q) (n := 32) (by omega), tk.k (k := 0) (by omega), tk.k (k := q) (by omega), hful]
          refine b_eq (by omega) (by omega) (fun cc => absurd cc (by omega)) (fun cc => ?_)
          refine B_Law_simple_381 ?_
          simp only [wp_cons, wp_nil, List.getElem?_cons_zero, List.getElem?_cons_succ, List.set_cons_zero, List.set_cons_succ, s_iload, ldI_s, s_iconst, s_if_icmp_lt, p2_s, true_and, and_true, Nat.le_refl, true_implies, forall_const, not_false_eq_true, false_implies, not_true_eq_false, reduceCtorEq, tl_s, tl_n, rf_s, List.cons_append, List.nil_append, true_or, or_true, har', ex_ie (x := 0) (i := 0) (n := 32) rfl (by omega), ex_ix (i := q) (n := 32) (by omega), tk.k (k := 0) (by omega), tk.k (k := q) (by omega), hful]
          refine b_lt (by omega) (by omega) (fun cc => absurd cc (by omega)) (fun cc => ?_)
          refine B_Law_simple_387 ?_
          simp only [wp_cons, wp_nil, List.getElem?_cons_zero, List.getElem?_cons_succ, List.set_cons_zero, List.set_cons_succ, s_aload_n0, ldA_r, ldA_n, ldA_s, s_iload, ldI_s, s_iaload, iR_s, ia_s, s_if_icmp_ne, p2_s, true_and, and_true, Nat.le_refl, true_implies, forall_const, not_false_eq_true, false_implies, not_true_eq_false, reduceCtorEq, tl_s, tl_n, rf_s, List.cons_append, List.nil_append, true_or, or_true, har', ex_ie (x := 0) (i := 0) (n := 32) rfl (by omega), ex_ix (i := q) (n := 32) (by omega), tk.k (k := 0) (by omega), tk.k (k := q) (by omega), hful]
          refine b_ne (by omega) (by omega) (fun cc => ?_) (fun cc => absurd cc (by omega))
          refine B_Law_simple_406 ?_
          simp only [wp_cons, wp_nil, List.getElem?_cons_zero, List.getElem?_cons_succ, List.set_cons_zero, List.set_cons_succ, s_iload, ldI_s, true_and, and_true, Nat.le_refl, true_implies, forall_const, not_false_eq_true, false_implies, not_true_eq_false, reduceCtorEq, tl_s, tl_n, rf_s, List.cons_append, List.nil_append, true_or, or_true, har', ex_ie (x := 0) (i := 0) (n := 32) rfl (by omega), ex_ix (i := q) (n := 32) (by omega), tk.k (k := 0) (by omega), tk.k (k := q) (by omega), hful]
          refine B_Law_simple_408 ?_
          simp only [wp_cons, wp_nil, List.getElem?_cons_zero, List.getElem?_cons_succ, List.set_cons_zero, List.set_cons_succ, s_ireturn, p1_s, rI_i, rI_z, rI_c, z_01, z_11, rt_Law_simple, true_and, and_true, Nat.le_refl, true_implies, forall_const, not_false_eq_true, false_implies, not_true_eq_false, reduceCtorEq, tl_s, tl_n, rf_s, List.cons_append, List.nil_append, true_or, or_true, har', ex_ie (x := 0) (i := 0) (n := 32) rfl (by omega), ex_ix (i := q) (n := 32) (by omega), tk.k (k := 0) (by omega), tk.k (k := q) (by omega), hful]
          refine hQ _ (sgood_set wS hml hb (fun k hk => (hv.2.2.1 k hk).1) (smp_pic (rep_no.mpr ⟨hno, fun e => c2 ?_⟩) (fun e => c1 e.2)))
          rw [← i6, i8]
          exact e.2
    · have ez : sz S.2 = 0 := if_neg z
      rw [ez]
      refine B_Law_simple_309 ?_
      simp only [wp_cons, wp_nil, List.getElem?_cons_zero, List.getElem?_cons_succ, List.set_cons_zero, List.set_cons_succ, s_iload, ldI_s, s_iload_n1, s_if_icmp_ge, p2_s, true_and, and_true, Nat.le_refl, true_implies, forall_const, not_false_eq_true, false_implies, not_true_eq_false, reduceCtorEq, tl_s, tl_n, rf_s, List.cons_append, List.nil_append, true_or, or_true]
      refine b_le (by omega) (by omega) (fun cc => ?_) (fun cc => absurd cc (by omega))
      refine B_Law_simple_377 ?_
      simp only [wp_cons, wp_nil, List.getElem?_cons_zero, List.getElem?_cons_succ, List.set_cons_zero, List.set_cons_succ, s_iload_n2, ldI_s, s_ifCond_eq, p1_s, true_and, and_true, Nat.le_refl, true_implies, forall_const, not_false_eq_true, false_implies, not_true_eq_false, reduceCtorEq, tl_s, tl_n, rf_s, List.cons_append, List.nil_append, true_or, or_true]
      refine B_Law_simple_406 ?_
      simp only [wp_cons, wp_nil, List.getElem?_cons_zero, List.getElem?_cons_succ, List.set_cons_zero, List.set_cons_succ, s_iload, ldI_s, true_and, and_true, Nat.le_refl, true_implies, forall_const, not_false_eq_true, false_implies, not_true_eq_false, reduceCtorEq, tl_s, tl_n, rf_s, List.cons_append, List.nil_append, true_or, or_true]
      refine B_Law_simple_408 ?_
      simp only [wp_cons, wp_nil, List.getElem?_cons_zero, List.getElem?_cons_succ, List.set_cons_zero, List.set_cons_succ, s_ireturn, p1_s, rI_i, rI_z, rI_c, z_01, z_11, rt_Law_simple, true_and, and_true, Nat.le_refl, true_implies, forall_const, not_false_eq_true, false_implies, not_true_eq_false, reduceCtorEq, tl_s, tl_n, rf_s, List.cons_append, List.nil_append, true_or, or_true]
      exact hQ _ (sgood_set wS hml hb (fun k hk => (hv.2.2.1 k hk).1) (smp_pic (rep_no.mpr ⟨hno, fun e => z e.1⟩) (fun e => z e.1)))
  | succ j ih =>
    intro k la fi ma hk hi
    by_cases c : m.testBit k = true
    · obtain ⟨i1, i2, i3⟩ := id hi
      have hpl := pick_len (fun i => m.testBit i) S.1 k
      have hpb : pbit m S.1 k = pick (fun i => m.testBit i) S.1 k := rfl
      rw [hpb] at i1
      have K350 : (∀ q : Nat, la = q → pg S.1 q ≠ pg S.1 k) → -1 ≤ fi → fi ≤ 100 → G Law_simple d 0 0 0 0 350 [some (.ref a), some (.int (I (S.1.length : Int))), some (.int (I (sz S.2))), some (.int (I t)), some (.int (I (m : Int))), some (.int z5), some (.int z6), some (.int (I la)), some (.int (I fi)), some (.int (I ma)), some (.int (I (k : Int))), x11, x12, x13, x14, x15, x16] [] h Q := by
        intro hn f1 f2
        have hi2 := hi.take c hn
        by_cases f3 : fi < 0
        · rw [if_pos f3] at hi2
          refine B_Law_simple_350 ?_
          simp only [wp_cons, wp_nil, List.getElem?_cons_zero, List.getElem?_cons_succ, List.set_cons_zero, List.set_cons_succ, s_iload, ldI_s, s_ifCond_ge, p1_s, true_and, and_true, Nat.le_refl, true_implies, forall_const, not_false_eq_true, false_implies, not_true_eq_false, reduceCtorEq, tl_s, tl_n, rf_s, List.cons_append, List.nil_append, true_or, or_true]
          refine b_le (by omega) (by omega) (fun cc => absurd cc (by omega)) (fun cc => ?_)
          refine B_Law_simple_355 ?_
          simp only [wp_cons, wp_nil, List.getElem?_cons_zero, List.getElem?_cons_succ, List.set_cons_zero, List.set_cons_succ, s_iload, ldI_s, s_goto, true_and, and_true, Nat.le_refl, true_implies, forall_const, not_false_eq_true, false_implies, not_true_eq_false, reduceCtorEq, tl_s, tl_n, rf_s, List.cons_append, List.nil_append, true_or, or_true]
          refine B_Law_simple_362 ?_
          simp only [wp_cons, wp_nil, List.getElem?_cons_zero, List.getElem?_cons_succ, List.set_cons_zero, List.set_cons_succ, s_istore, p1_s, s1_0, s1_s, kx_i, kx_r, kx_s, kx_n, kx_l, kx_0, s_iload, ldI_s, s_iinc, I_add, true_and, and_true, Nat.le_refl, true_implies, forall_const, not_false_eq_true, false_implies, not_true_eq_false, reduceCtorEq, tl_s, tl_n, rf_s, List.cons_append, List.nil_append, true_or, or_true]
          refine B_Law_simple_371 ?_
          simp only [wp_cons, wp_nil, List.getElem?_cons_zero, List.getElem?_cons_succ, List.set_cons_zero, List.set_cons_succ, s_iinc, ldI_s, s1_0, s1_s, kx_i, kx_r, kx_s, kx_n, kx_l, kx_0, I_add, s_goto, true_and, and_true, Nat.le_refl, true_implies, forall_const, not_false_eq_true, false_implies, not_true_eq_false, reduceCtorEq, tl_s, tl_n, rf_s, List.cons_append, List.nil_append, true_or, or_true]
          exact ih (k + 1) _ _ _ (by omega) hi2
        · rw [if_neg f3] at hi2
          refine B_Law_simple_350 ?_
          simp only [wp_cons, wp_nil, List.getElem?_cons_zero, List.getElem?_cons_succ, List.set_cons_zero, List.set_cons_succ, s_iload, ldI_s, s_ifCond_ge, p1_s, true_and, and_true, Nat.le_refl, true_implies, forall_const, not_false_eq_true, false_implies, not_true_eq_false, reduceCtorEq, tl_s, tl_n, rf_s, List.cons_append, List.nil_append, true_or, or_true]
          refine b_le (by omega) (by omega) (fun cc => ?_) (fun cc => absurd cc (by omega))
          refine B_Law_simple_360 ?_
          simp only [wp_cons, wp_nil, List.getElem?_cons_zero, List.getElem?_cons_succ, List.set_cons_zero, List.set_cons_succ, s_iload, ldI_s, true_and, and_true, Nat.le_refl, true_implies, forall_const, not_false_eq_true, false_implies, not_true_eq_false, reduceCtorEq, tl_s, tl_n, rf_s, List.cons_append, List.nil_append, true_or, or_true]
          refine B_Law_simple_362 ?_
          simp only [wp_cons, wp_nil, List.getElem?_cons_zero, List.getElem?_cons_succ, List.set_cons_zero, List.set_cons_succ, s_istore, p1_s, s1_0, s1_s, kx_i, kx_r, kx_s, kx_n, kx_l, kx_0, s_iload, ldI_s, s_iinc, I_add, true_and, and_true, Nat.le_refl, true_implies, forall_const, not_false_eq_true, false_implies, not_true_eq_false, reduceCtorEq, tl_s, tl_n, rf_s, List.cons_append, List.nil_append, true_or, or_true]
          refine B_Law_simple_371 ?_
          simp only [wp_cons, wp_nil, List.getElem?_cons_zero, List.getElem?_cons_succ, List.set_cons_zero, List.set_cons_succ, s_iinc, ldI_s, s1_0, s1_s, kx_i, kx_r, kx_s, kx_n, kx_l, kx_0, I_add, s_goto, true_and, and_true, Nat.le_refl, true_implies, forall_const, not_false_eq_true, false_implies, not_true_eq_false, reduceCtorEq, tl_s, tl_n, rf_s, List.cons_append, List.nil_append, true_or, or_true]
          exact ih (k + 1) _ _ _ (by omega) hi2
      rcases i3 with ⟨a1, a2, a3⟩ | ⟨a1, a2, a3, a4, q, a5, a6, a7⟩
      · refine B_Law_simple_309 ?_
        simp only [wp_cons, wp_nil, List.getElem?_cons_zero, List.getElem?_cons_succ, List.set_cons_zero, List.set_cons_succ, s_iload, ldI_s, s_iload_n1, s_if_icmp_ge, p2_s, true_and, and_true, Nat.le_refl, true_implies, forall_const, not_false_eq_true, false_implies, not_true_eq_false, reduceCtorEq, tl_s, tl_n, rf_s, List.cons_append, List.nil_append, true_or, or_true, har', I_bit (show m < 2147483648 by omega) (show k < 31 by omega), tb_t c]
        refine b_le (by omega) (by omega) (fun cc => absurd cc (by omega)) (fun cc => ?_)
        refine B_Law_simple_315 ?_
        simp only [wp_cons, wp_nil, List.getElem?_cons_zero, List.getElem?_cons_succ, List.set_cons_zero, List.set_cons_succ, s_iload, ldI_s, s_ishr, p2_s, s_iconst, s_iand, s_ifCond_ne, p1_s, true_and, and_true, Nat.le_refl, true_implies, forall_const, not_false_eq_true, false_implies, not_true_eq_false, reduceCtorEq, tl_s, tl_n, rf_s, List.cons_append, List.nil_append, true_or, or_true, har', I_bit (show m < 2147483648 by omega) (show k < 31 by omega), tb_t c]
        refine b_ne (by omega) (by omega) (fun cc => ?_) (fun cc => absurd cc (by omega))
        refine B_Law_simple_328 ?_
        simp only [wp_cons, wp_nil, List.getElem?_cons_zero, List.getElem?_cons_succ, List.set_cons_zero, List.set_cons_succ, s_iload, ldI_s, s_ifCond_lt, p1_s, true_and, and_true, Nat.le_refl, true_implies, forall_const, not_false_eq_true, false_implies, not_true_eq_false, reduceCtorEq, tl_s, tl_n, rf_s, List.cons_append, List.nil_append, true_or, or_true, har', I_bit (show m < 2147483648 by omega) (show k < 31 by omega), tb_t c]
        refine b_lt (by omega) (by omega) (fun cc => ?_) (fun cc => absurd cc (by omega))
        exact K350 (fun q hq => by omega) (by omega) (by omega)
      · have p1 := w3 q (by omega)
        have p2 := w3 k (by omega)
        subst a6
        by_cases e : pg S.1 q = pg S.1 k
        · refine B_Law_simple_309 ?_
          simp only [wp_cons, wp_nil, List.getElem?_cons_zero, List.getElem?_cons_succ, List.set_cons_zero, List.set_cons_succ, s_iload, ldI_s, s_iload_n1, s_if_icmp_ge, p2_s, true_and, and_true, Nat.le_refl, true_implies, forall_const, not_false_eq_true, false_implies, not_true_eq_false, reduceCtorEq, tl_s, tl_n, rf_s, List.cons_append, List.nil_append, true_or, or_true, har', I_bit (show m < 2147483648 by omega) (show k < 31 by omega), tb_t c, ex_ix (i := q) (n := 32) (by omega), ex_ix (i := k) (n := 32) (by omega), tk.k (k := q) (by omega), tk.k (k := k) (by omega), hful]
          refine b_le (by omega) (by omega) (fun cc => absurd cc (by omega)) (fun cc => ?_)
          refine B_Law_simple_315 ?_
          simp only [wp_cons, wp_nil, List.getElem?_cons_zero, List.getElem?_cons_succ, List.set_cons_zero, List.set_cons_succ, s_iload, ldI_s, s_ishr, p2_s, s_iconst, s_iand, s_ifCond_ne, p1_s, true_and, and_true, Nat.le_refl, true_implies, forall_const, not_false_eq_true, false_implies, not_true_eq_false, reduceCtorEq, tl_s, tl_n, rf_s, List.cons_append, List.nil_append, true_or, or_true, har', I_bit (show m < 2147483648 by omega) (show k < 31 by omega), tb_t c, ex_ix (i := q) (n := 32) (by omega), ex_ix (i := k) (n := 32) (by omega), tk.k (k := q) (by omega), tk.k (k := k) (by omega), hful]
          refine b_ne (by omega) (by omega) (fun cc => ?_) (fun cc => absurd cc (by omega))
          refine B_Law_simple_328 ?_
          simp only [wp_cons, wp_nil, List.getElem?_cons_zero, List.getElem?_cons_succ, List.set_cons_zero, List.set_cons_succ, s_iload, ldI_s, s_ifCond_lt, p1_s, true_and, and_true, Nat.le_refl, true_implies, forall_const, not_false_eq_true, false_implies, not_true_eq_false, reduceCtorEq, tl_s, tl_n, rf_s, List.cons_append, List.nil_append, true_or, or_true, har', I_bit (show m < 2147483648 by omega) (show k < 31 by omega), tb_t c, ex_ix (i := q) (n := 32) (by omega), ex_ix (i := k) (n := 32) (by omega), tk.k (k := q) (by omega), tk.k (k := k) (by omega), hful]
          refine b_lt (by omega) (by omega) (fun cc => absurd cc (by omega)) (fun cc => ?_)
          refine B_Law_simple_333 ?_
          simp only [wp_cons, wp_nil, List.getElem?_cons_zero, List.getElem?_cons_succ, List.set_cons_zero, List.set_cons_succ, s_aload_n0, ldA_r, ldA_n, ldA_s, s_iload, ldI_s, s_iaload, iR_s, ia_s, s_if_icmp_ne, p2_s, true_and, and_true, Nat.le_refl, true_implies, forall_const, not_false_eq_true, false_implies, not_true_eq_false, reduceCtorEq, tl_s, tl_n, rf_s, List.cons_append, List.nil_append, true_or, or_true, har', I_bit (show m < 2147483648 by omega) (show k < 31 by omega), tb_t c, ex_ix (i := q) (n := 32) (by omega), ex_ix (i := k) (n := 32) (by omega), tk.k (k := q) (by omega), tk.k (k := k) (by omega), hful]
          refine b_ne (by omega) (by omega) (fun cc => absurd cc (by omega)) (fun cc => ?_)
          refine B_Law_simple_344 ?_
          simp only [wp_cons, wp_nil, List.getElem?_cons_zero, List.getElem?_cons_succ, List.set_cons_zero, List.set_cons_succ, s_iconst, s_iload_n1, ldI_s, s_ishl, p2_s, s_isub, I_sub, s_ireturn, p1_s, rI_i, rI_z, rI_c, z_01, z_11, rt_Law_simple, true_and, and_true, Nat.le_refl, true_implies, forall_const, not_false_eq_true, false_implies, not_true_eq_false, reduceCtorEq, tl_s, tl_n, rf_s, List.cons_append, List.nil_append, true_or, or_true, har', I_bit (show m < 2147483648 by omega) (show k < 31 by omega), tb_t c, ex_ix (i := q) (n := 32) (by omega), ex_ix (i := k) (n := 32) (by omega), tk.k (k := q) (by omega), tk.k (k := k) (by omega), hful]
          refine hQ _ (sgood_full wS (smp_full (Or.inl (fun r => ?_))))
          have hk1 : (pbit m S.1 (k + 1)) = pbit m S.1 k ++ [pg S.1 k] := pbit_t S.1 c
          have hlen : (pbit m S.1 (k + 1)).length = (pbit m S.1 k).length + 1 := by rw [hk1]; simp
          have pre1 := pick_pre (fun i => m.testBit i) S.1 j (k + 1) (pbit m S.1 k).length (by show _ < (pbit m S.1 (k + 1)).length; omega)
          have pre2 := pick_pre (fun i => m.testBit i) S.1 j (k + 1) ((pbit m S.1 k).length - 1) (by show _ < (pbit m S.1 (k + 1)).length; omega)
          rw [show k + 1 + j = S.1.length by omega] at pre1 pre2
          have hpic2 : pick (fun i => m.testBit i) S.1 S.1.length = picS S t := hpic
          rw [hpic2] at pre1 pre2
          have g1 : pg (pick (fun i => m.testBit i) S.1 (k + 1)) (pbit m S.1 k).length = pg S.1 k := by
            show pg (pbit m S.1 (k + 1)) _ = _
            rw [hk1, pg_app_r _ _ (Nat.le_refl _), Nat.sub_self]; rfl
          have g2 : pg (pick (fun i => m.testBit i) S.1 (k + 1)) ((pbit m S.1 k).length - 1) = pg S.1 q := by
            show pg (pbit m S.1 (k + 1)) _ = _
            rw [hk1, pg_app_l _ _ (by omega), a7]
          have hl2 : (pbit m S.1 k).length < (picS S t).length := by
            have h9 := pre1.2
            have h8 : (pick (fun i => m.testBit i) S.1 (k + 1)).length = (pbit m S.1 k).length + 1 := hlen
            omega
          have no := (rep_no.mp r).1 (pbit m S.1 k).length a3 hl2
          refine no ?_
          show pg (picS S t) _ = pg (picS S t) _
          rw [pre1.1, pre2.1, g1, g2, e]
        · refine B_Law_simple_309 ?_
          simp only [wp_cons, wp_nil, List.getElem?_cons_zero, List.getElem?_cons_succ, List.set_cons_zero, List.set_cons_succ, s_iload, ldI_s, s_iload_n1, s_if_icmp_ge, p2_s, true_and, and_true, Nat.le_refl, true_implies, forall_const, not_false_eq_true, false_implies, not_true_eq_false, reduceCtorEq, tl_s, tl_n, rf_s, List.cons_append, List.nil_append, true_or, or_true, har', I_bit (show m < 2147483648 by omega) (show k < 31 by omega), tb_t c, ex_ix (i := q) (n := 32) (by omega), ex_ix (i := k) (n := 32) (by omega), tk.k (k := q) (by omega), tk.k (k := k) (by omega), hful]
          refine b_le (by omega) (by omega) (fun cc => absurd cc (by omega)) (fun cc => ?_)
          refine B_Law_simple_315 ?_
          simp only [wp_cons, wp_nil, List.getElem?_cons_zero, List.getElem?_cons_succ, List.set_cons_zero, List.set_cons_succ, s_iload, ldI_s, s_ishr, p2_s, s_iconst, s_iand, s_ifCond_ne, p1_s, true_and, and_true, Nat.le_refl, true_implies, forall_const, not_false_eq_true, false_implies, not_true_eq_false, reduceCtorEq, tl_s, tl_n, rf_s, List.cons_append, List.nil_append, true_or, or_true, har', I_bit (show m < 2147483648 by omega) (show k < 31 by omega), tb_t c, ex_ix (i := q) (n := 32) (by omega), ex_ix (i := k) (n := 32) (by omega), tk.k (k := q) (by omega), tk.k (k := k) (by omega), hful]
          refine b_ne (by omega) (by omega) (fun cc => ?_) (fun cc => absurd cc (by omega))
          refine B_Law_simple_328 ?_
          simp only [wp_cons, wp_nil, List.getElem?_cons_zero, List.getElem?_cons_succ, List.set_cons_zero, List.set_cons_succ, s_iload, ldI_s, s_ifCond_lt, p1_s, true_and, and_true, Nat.le_refl, true_implies, forall_const, not_false_eq_true, false_implies, not_true_eq_false, reduceCtorEq, tl_s, tl_n, rf_s, List.cons_append, List.nil_append, true_or, or_true, har', I_bit (show m < 2147483648 by omega) (show k < 31 by omega), tb_t c, ex_ix (i := q) (n := 32) (by omega), ex_ix (i := k) (n := 32) (by omega), tk.k (k := q) (by omega), tk.k (k := k) (by omega), hful]
          refine b_lt (by omega) (by omega) (fun cc => absurd cc (by omega)) (fun cc => ?_)
          refine B_Law_simple_333 ?_
          simp only [wp_cons, wp_nil, List.getElem?_cons_zero, List.getElem?_cons_succ, List.set_cons_zero, List.set_cons_succ, s_aload_n0, ldA_r, ldA_n, ldA_s, s_iload, ldI_s, s_iaload, iR_s, ia_s, s_if_icmp_ne, p2_s, true_and, and_true, Nat.le_refl, true_implies, forall_const, not_false_eq_true, false_implies, not_true_eq_false, reduceCtorEq, tl_s, tl_n, rf_s, List.cons_append, List.nil_append, true_or, or_true, har', I_bit (show m < 2147483648 by omega) (show k < 31 by omega), tb_t c, ex_ix (i := q) (n := 32) (by omega), ex_ix (i := k) (n := 32) (by omega), tk.k (k := q) (by omega), tk.k (k := k) (by omega), hful]
          refine b_ne (by omega) (by omega) (fun cc => ?_) (fun cc => absurd cc (by omega))
          exact K350 (fun q' hq => by rw [show q' = q by omega]; exact e) (by omega) (by omega)
    · refine B_Law_simple_309 ?_
      simp only [wp_cons, wp_nil, List.getElem?_cons_zero, List.getElem?_cons_succ, List.set_cons_zero, List.set_cons_succ, s_iload, ldI_s, s_iload_n1, s_if_icmp_ge, p2_s, true_and, and_true, Nat.le_refl, true_implies, forall_const, not_false_eq_true, false_implies, not_true_eq_false, reduceCtorEq, tl_s, tl_n, rf_s, List.cons_append, List.nil_append, true_or, or_true, har', I_bit (show m < 2147483648 by omega) (show k < 31 by omega), tb_f c]
      refine b_le (by omega) (by omega) (fun cc => absurd cc (by omega)) (fun cc => ?_)
      refine B_Law_simple_315 ?_
      simp only [wp_cons, wp_nil, List.getElem?_cons_zero, List.getElem?_cons_succ, List.set_cons_zero, List.set_cons_succ, s_iload, ldI_s, s_ishr, p2_s, s_iconst, s_iand, s_ifCond_ne, p1_s, true_and, and_true, Nat.le_refl, true_implies, forall_const, not_false_eq_true, false_implies, not_true_eq_false, reduceCtorEq, tl_s, tl_n, rf_s, List.cons_append, List.nil_append, true_or, or_true, har', I_bit (show m < 2147483648 by omega) (show k < 31 by omega), tb_f c]
      refine B_Law_simple_325 ?_
      simp only [wp_cons, wp_nil, List.getElem?_cons_zero, List.getElem?_cons_succ, List.set_cons_zero, List.set_cons_succ, s_goto, true_and, and_true, Nat.le_refl, true_implies, forall_const, not_false_eq_true, false_implies, not_true_eq_false, reduceCtorEq, tl_s, tl_n, rf_s, List.cons_append, List.nil_append, true_or, or_true, har', I_bit (show m < 2147483648 by omega) (show k < 31 by omega), tb_f c]
      refine B_Law_simple_371 ?_
      simp only [wp_cons, wp_nil, List.getElem?_cons_zero, List.getElem?_cons_succ, List.set_cons_zero, List.set_cons_succ, s_iinc, ldI_s, s1_0, s1_s, kx_i, kx_r, kx_s, kx_n, kx_l, kx_0, I_add, s_goto, true_and, and_true, Nat.le_refl, true_implies, forall_const, not_false_eq_true, false_implies, not_true_eq_false, reduceCtorEq, tl_s, tl_n, rf_s, List.cons_append, List.nil_append, true_or, or_true, har', I_bit (show m < 2147483648 by omega) (show k < 31 by omega), tb_f c]
      exact ih (k + 1) _ _ _ (by omega) (hi.skip hv.1 c)
theorem Law_simple_c {d : Nat} (hd : 3 ≤ d) {S : Stk} {a : Nat} {t : Int} {f : Nat → Int} {h : g_H} {Q : g_Po} (wS : wfS S) (ht : 0 ≤ t ∧ t ≤ 200) (har : ary h a 32 f) (tk : tkn S f) (hQ : ∀ r : Nat, sgood S t r → Q (some (.int (I (r : Int)))) h) : Call Law_simple d 0 0 [.ref a, .int (I (S.1.length : Int)), .int (I (sz S.2)), .int (I t)] h Q := by
  have d1 : 1 ≤ d := by omega
  have hpc : pcs S ≤ S.1.length := pcs_le
  have w1 := wS.1
  have w2 := wS.2.1
  have w3 := wS.2.2.1
  have har' : h[a]? = some (.inl (0, 32, fun i => I (f i))) := har
  have hff := ffS_rng wS
  refine Call.intro (by rfl) (Nat.le_of_ble_eq_true rfl) ?_
  refine G.eqL (L := [some (.ref a), some (.int (I (S.1.length : Int))), some (.int (I (sz S.2))), some (.int (I t)), none, none, none, none, none, none, none, none, none, none, none, none, none]) rfl ?_
  have K85 : ∀ (m : Nat) (x5 x6 : Option Value), sinv S t m → G Law_simple d 0 0 0 0 85 [some (.ref a), some (.int (I (S.1.length : Int))), some (.int (I (sz S.2))), some (.int (I t)), some (.int (I (m : Int))), x5, x6, none, none, none, none, none, none, none, none, none, none] [.int (I (pcs S : Int))] h Q := by
    intro m x5 x6 hv
    refine B_Law_simple_85 ?_
    simp only [wp_cons, wp_nil, List.getElem?_cons_zero, List.getElem?_cons_succ, List.set_cons_zero, List.set_cons_succ, s_istore, p1_s, s1_0, s1_s, kx_i, kx_r, kx_s, kx_n, kx_l, kx_0, s_iconst, true_and, and_true, Nat.le_refl, true_implies, forall_const, not_false_eq_true, false_implies, not_true_eq_false, reduceCtorEq, tl_s, tl_n, rf_s, List.cons_append, List.nil_append, true_or, or_true]
    refine Simple_while hd wS ht har tk (fun m2 m0 y7 y8 y9 y10 y11 y12 y13 y14 y15 y16 g1 g2 => ?_) 1073741824 0 m _ _ _ _ _ _ _ _ _ _ hv (Nat.zero_le _) (fun e => by rw [e] at hv; have := hv.1; rw [Nat.zero_testBit] at this; cases this) (fun _ => by omega)
    have hb := g1.fin g2
    refine B_Law_simple_297 ?_
    simp only [wp_cons, wp_nil, List.getElem?_cons_zero, List.getElem?_cons_succ, List.set_cons_zero, List.set_cons_succ, s_iconst, s_istore, p1_s, s1_0, s1_s, kx_i, kx_r, kx_s, kx_n, kx_l, kx_0, true_and, and_true, Nat.le_refl, true_implies, forall_const, not_false_eq_true, false_implies, not_true_eq_false, reduceCtorEq, tl_s, tl_n, rf_s, List.cons_append, List.nil_append, true_or, or_true]
    exact Simple_last hd wS ht har tk g1 hb hQ S.1.length 0 _ _ _ (by omega) ⟨rfl, fun i _ h2 => absurd h2 (by show ¬ i < 0; omega), Or.inl ⟨rfl, rfl, rfl⟩⟩
  by_cases z : S.2 = true
  · have ez : sz S.2 = 1 := if_pos z
    have ep9 : pcs S = S.1.length := if_pos z
    rw [ep9] at K85
    have F := fun m0 hO => Simple_first (Q := Q) hd wS ht har tk (x7 := none) (x8 := none) (x9 := none) (x10 := none) (x11 := none) (x12 := none) (x13 := none) (x14 := none) (x15 := none) (x16 := none) hO (S.1.length - 2) 2 m0 (by have := (wS.2.2.2.2 z).1; omega) (Nat.le_refl _)
    rw [ez] at K85 F ⊢
    refine B_Law_simple_0 ?_
    simp only [wp_cons, wp_nil, List.getElem?_cons_zero, List.getElem?_cons_succ, List.set_cons_zero, List.set_cons_succ, s_iconst, s_istore, p1_s, s1_0, s1_s, kx_i, kx_r, kx_s, kx_n, kx_l, kx_0, s_iload_n2, ldI_s, s_ifCond_eq, true_and, and_true, Nat.le_refl, true_implies, forall_const, not_false_eq_true, false_implies, not_true_eq_false, reduceCtorEq, tl_s, tl_n, rf_s, List.cons_append, List.nil_append, true_or, or_true]
    refine b_eq (by omega) (by omega) (fun cc => absurd cc (by omega)) (fun cc => ?_)
    refine B_Law_simple_7 ?_
    simp only [wp_cons, wp_nil, List.getElem?_cons_zero, List.getElem?_cons_succ, List.set_cons_zero, List.set_cons_succ, s_iconst, s_istore, p1_s, s1_0, s1_s, kx_i, kx_r, kx_s, kx_n, kx_l, kx_0, true_and, and_true, Nat.le_refl, true_implies, forall_const, not_false_eq_true, false_implies, not_true_eq_false, reduceCtorEq, tl_s, tl_n, rf_s, List.cons_append, List.nil_append, true_or, or_true]
    refine F 1 ?_ (ffb_S wS).symm
    have eo : I 1 ||| I ((2 ^ ffS S : Nat) : Int) = I ((1 ||| 2 ^ ffS S : Nat) : Int) := I_orN 1 (2 ^ ffS S)
    refine B_Law_simple_52 ?_
    simp only [wp_cons, wp_nil, List.getElem?_cons_zero, List.getElem?_cons_succ, List.set_cons_zero, List.set_cons_succ, s_iload, ldI_s, s_iconst, s_ishl, p2_s, s_ior, s_istore, p1_s, s1_0, s1_s, kx_i, kx_r, kx_s, kx_n, kx_l, kx_0, s_goto, true_and, and_true, Nat.le_refl, true_implies, forall_const, not_false_eq_true, false_implies, not_true_eq_false, reduceCtorEq, tl_s, tl_n, rf_s, List.cons_append, List.nil_append, true_or, or_true, I_shl1 (ffS S) (by omega), eo]
    refine B_Law_simple_74 ?_
    simp only [wp_cons, wp_nil, List.getElem?_cons_zero, List.getElem?_cons_succ, List.set_cons_zero, List.set_cons_succ, s_iload_n2, ldI_s, s_ifCond_eq, p1_s, true_and, and_true, Nat.le_refl, true_implies, forall_const, not_false_eq_true, false_implies, not_true_eq_false, reduceCtorEq, tl_s, tl_n, rf_s, List.cons_append, List.nil_append, true_or, or_true, I_shl1 (ffS S) (by omega), eo]
    refine b_eq (by omega) (by omega) (fun cc => absurd cc (by omega)) (fun cc => ?_)
    refine B_Law_simple_78 ?_
    simp only [wp_cons, wp_nil, List.getElem?_cons_zero, List.getElem?_cons_succ, List.set_cons_zero, List.set_cons_succ, s_iload_n1, ldI_s, s_goto, true_and, and_true, Nat.le_refl, true_implies, forall_const, not_false_eq_true, false_implies, not_true_eq_false, reduceCtorEq, tl_s, tl_n, rf_s, List.cons_append, List.nil_append, true_or, or_true, I_shl1 (ffS S) (by omega), eo]
    exact K85 _ _ _ (sinv_cl wS ht.2 z)
  · have ez : sz S.2 = 0 := if_neg z
    have ep9 : pcs S = S.1.length - 1 := if_neg z
    rw [ep9, show ((S.1.length - 1 : Nat) : Int) = (S.1.length : Int) - 1 by omega] at K85
    rw [ez] at K85 ⊢
    have eo : I 1 ||| I ((2 ^ (S.1.length - 1) : Nat) : Int) = I ((1 ||| 2 ^ (S.1.length - 1) : Nat) : Int) := I_orN 1 (2 ^ (S.1.length - 1))
    have es := I_shl1 (S.1.length - 1) (by omega)
    rw [show ((S.1.length - 1 : Nat) : Int) = (S.1.length : Int) - 1 by omega] at es
    refine B_Law_simple_0 ?_
    simp only [wp_cons, wp_nil, List.getElem?_cons_zero, List.getElem?_cons_succ, List.set_cons_zero, List.set_cons_succ, s_iconst, s_istore, p1_s, s1_0, s1_s, kx_i, kx_r, kx_s, kx_n, kx_l, kx_0, s_iload_n2, ldI_s, s_ifCond_eq, true_and, and_true, Nat.le_refl, true_implies, forall_const, not_false_eq_true, false_implies, not_true_eq_false, reduceCtorEq, tl_s, tl_n, rf_s, List.cons_append, List.nil_append, true_or, or_true, es, eo]
    refine B_Law_simple_64 ?_
    simp only [wp_cons, wp_nil, List.getElem?_cons_zero, List.getElem?_cons_succ, List.set_cons_zero, List.set_cons_succ, s_iload, ldI_s, s_iconst, s_iload_n1, s_isub, p2_s, I_sub, s_ishl, s_ior, s_istore, p1_s, s1_0, s1_s, kx_i, kx_r, kx_s, kx_n, kx_l, kx_0, true_and, and_true, Nat.le_refl, true_implies, forall_const, not_false_eq_true, false_implies, not_true_eq_false, reduceCtorEq, tl_s, tl_n, rf_s, List.cons_append, List.nil_append, true_or, or_true, es, eo]
    refine B_Law_simple_74 ?_
    simp only [wp_cons, wp_nil, List.getElem?_cons_zero, List.getElem?_cons_succ, List.set_cons_zero, List.set_cons_succ, s_iload_n2, ldI_s, s_ifCond_eq, p1_s, true_and, and_true, Nat.le_refl, true_implies, forall_const, not_false_eq_true, false_implies, not_true_eq_false, reduceCtorEq, tl_s, tl_n, rf_s, List.cons_append, List.nil_append, true_or, or_true, es, eo]
    refine B_Law_simple_82 ?_
    simp only [wp_cons, wp_nil, List.getElem?_cons_zero, List.getElem?_cons_succ, List.set_cons_zero, List.set_cons_succ, s_iload_n1, ldI_s, s_iconst, s_isub, p2_s, I_sub, true_and, and_true, Nat.le_refl, true_implies, forall_const, not_false_eq_true, false_implies, not_true_eq_false, reduceCtorEq, tl_s, tl_n, rf_s, List.cons_append, List.nil_append, true_or, or_true, es, eo]
    exact K85 _ _ _ (sinv_op wS ht.2 z)
