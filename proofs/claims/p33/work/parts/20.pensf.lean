/-! ===== the class's methods: read, digest, the constructor ===== -/
theorem sm_b1 (f : Nat → Int) (A : Int) (n : Nat) (h : ∀ i, i < n → 0 ≤ f i ∧ f i ≤ A) : 0 ≤ sm f n ∧ sm f n ≤ A * n := by
  induction n with
  | zero => exact ⟨Int.le_refl _, by simp [sm]⟩
  | succ n ih =>
    have h1 := ih (fun i hi => h i (by omega))
    have h2 := h n (by omega)
    show 0 ≤ sm f n + f n ∧ sm f n + f n ≤ A * ((n + 1 : Nat) : Int)
    rw [show A * ((n + 1 : Nat) : Int) = A * n + A by rw [Int.natCast_add, Int.mul_add]; simp]
    omega
theorem cpf_bd (p q : Int) {S : Stk} (hS : S.1.length ≤ 30) (b : Nat) : 0 ≤ cpf p q S b ∧ cpf p q S b ≤ 30 := by
  have h := sm_b1 (fun j => if b ≤ j ∧ pcr p q (pg S.1 j) (pr S.1 (j + 1)) = true then 1 else 0) 1 (pcs S) (fun i _ => by split <;> omega)
  have := pcs_le (S := S)
  unfold cpf
  omega
theorem cx2_bd {A B : Stk} (hA : A.1.length ≤ 30) (hB : B.1.length ≤ 30) : 0 ≤ cx2 A B ∧ cx2 A B ≤ 900 := by
  have h := sm_b1 (fun i => cpf (pg A.1 i) (pr A.1 (i + 1)) B 0) 30 (pcs A) (fun i _ => cpf_bd _ _ hB _)
  have := pcs_le (S := A)
  unfold cx2
  omega
theorem figS_bd {S : Stk} (w : wfS S) (v : Nat) : i32 (figS S v) := by
  obtain ⟨w1, w2, w3, w4, w5⟩ := w
  have hpc := pcs_le (S := S)
  have hz := sz_bd S.2
  have ha := area_bd w3 (by omega) w2
  have h2 : -59880060 ≤ lenS S ∧ lenS S ≤ 59880060 := by
    have := sm_bd (fun i => rt (100 * sqd (pg S.1 i) (pr S.1 (i + 1)))) (pcs S) (fun i hi => by
      have b1 := sqd_bd (w3 i (by omega)) (pr_pt (i := i + 1) w3 (by omega))
      have b2 := rt_ok (n := 100 * sqd (pg S.1 i) (pr S.1 (i + 1))) (by omega) (by omega)
      omega)
    unfold lenS
    omega
  have h5 : 0 ≤ cseS S ∧ cseS S ≤ 900 := by
    have h := sm_b1 (fun i => cpf (pg S.1 i) (pr S.1 (i + 1)) S (i + 1)) 30 (pcs S) (fun i _ => cpf_bd _ _ w2 _)
    unfold cseS
    omega
  have h6 : ∀ x z, 0 ≤ bndS S x z ∧ bndS S x z ≤ 999 := fun x z => by
    refine bnf_bd _ _ _ (fun j hj => ?_)
    have := w3 j (by omega)
    split <;> omega
  unfold figS
  repeat' split
  all_goals first | omega | (have := h6 (decide (v < 8)) (decide (v = 7 ∨ v = 9)); omega)
/-! blocks of Pens_init -/
theorem ml_Pens_init : (g_m Pens_init).2.2.1 = 1 := rfl
theorem rt_Pens_init : (g_m Pens_init).2.2.2.1 = none := rfl
theorem B_Pens_init_0 {d mc ms cs ss : Nat} {L : List (Option Value)} {st : List Value} {h : g_H} {Q : g_Po} (hw : g_wp Pens_init d mc ms Q 12 [(0, 1, 0, 0, 0, 0, .aload_n 0), (1, 3, 9999, 0, 1018, 0, .invokespecial 1), (4, 1, 0, 0, 0, 0, .aload_n 0), (5, 3, 0, 3, 1021, 0, .new 7), (8, 1, 0, 0, 0, 0, .dup), (9, 3, 0, 0, 1023, 0, .invokespecial 9)] cs ss L st h) : G Pens_init d mc ms cs ss 0 L st h Q := G.run (by decide +kernel) hw
theorem B_Pens_init_12 {d mc ms cs ss : Nat} {L : List (Option Value)} {st : List Value} {h : g_H} {Q : g_Po} (hw : g_wp Pens_init d mc ms Q 23 [(12, 3, 6, 0, 1137, 12, .putfield 10), (15, 1, 0, 0, 0, 0, .aload_n 0), (16, 3, 0, 3, 1021, 0, .new 7), (19, 1, 0, 0, 0, 0, .dup), (20, 3, 0, 0, 1023, 0, .invokespecial 9)] cs ss L st h) : G Pens_init d mc ms cs ss 12 L st h Q := G.run (by decide +kernel) hw
theorem B_Pens_init_23 {d mc ms cs ss : Nat} {L : List (Option Value)} {st : List Value} {h : g_H} {Q : g_Po} (hw : g_wp Pens_init d mc ms Q 34 [(23, 3, 6, 1, 1138, 12, .putfield 16), (26, 1, 0, 0, 0, 0, .aload_n 0), (27, 3, 2, 3, 1069, 0, .new 19), (30, 1, 0, 0, 0, 0, .dup), (31, 3, 32, 0, 1070, 0, .invokespecial 21)] cs ss L st h) : G Pens_init d mc ms cs ss 23 L st h Q := G.run (by decide +kernel) hw
theorem B_Pens_init_34 {d mc ms cs ss : Nat} {L : List (Option Value)} {st : List Value} {h : g_H} {Q : g_Po} (hw : g_wp Pens_init d mc ms Q 45 [(34, 3, 6, 2, 1139, 12, .putfield 22), (37, 1, 0, 0, 0, 0, .aload_n 0), (38, 3, 1, 2, 1071, 0, .new 26), (41, 1, 0, 0, 0, 0, .dup), (42, 3, 6, 0, 1073, 0, .invokespecial 28)] cs ss L st h) : G Pens_init d mc ms cs ss 34 L st h Q := G.run (by decide +kernel) hw
theorem B_Pens_init_45 {d mc ms cs ss : Nat} {L : List (Option Value)} {st : List Value} {h : g_H} {Q : g_Po} (hw : g_wp Pens_init d mc ms Q 56 [(45, 3, 6, 3, 1140, 12, .putfield 29), (48, 1, 0, 0, 0, 0, .aload_n 0), (49, 3, 4, 1, 1087, 0, .new 33), (52, 1, 0, 0, 0, 0, .dup), (53, 3, 46, 0, 1089, 0, .invokespecial 35)] cs ss L st h) : G Pens_init d mc ms cs ss 45 L st h Q := G.run (by decide +kernel) hw
theorem B_Pens_init_56 {d mc ms cs ss : Nat} {L : List (Option Value)} {st : List Value} {h : g_H} {Q : g_Po} (hw : g_wp Pens_init d mc ms Q 67 [(56, 3, 6, 4, 1141, 12, .putfield 36), (59, 1, 0, 0, 0, 0, .aload_n 0), (60, 3, 5, 5, 1097, 0, .new 40), (63, 1, 0, 0, 0, 0, .dup), (64, 3, 57, 0, 1099, 0, .invokespecial 42)] cs ss L st h) : G Pens_init d mc ms cs ss 56 L st h Q := G.run (by decide +kernel) hw
theorem B_Pens_init_67 {d mc ms cs ss : Nat} {L : List (Option Value)} {st : List Value} {h : g_H} {Q : g_Po} (hw : g_wp Pens_init d mc ms Q 78 [(67, 3, 6, 5, 1142, 12, .putfield 43), (70, 1, 0, 0, 0, 0, .aload_n 0), (71, 3, 3, 3, 1119, 0, .new 47), (74, 1, 0, 0, 0, 0, .dup), (75, 3, 45, 0, 1121, 0, .invokespecial 49)] cs ss L st h) : G Pens_init d mc ms cs ss 67 L st h Q := G.run (by decide +kernel) hw
theorem B_Pens_init_78 {d mc ms cs ss : Nat} {L : List (Option Value)} {st : List Value} {h : g_H} {Q : g_Po} (hw : g_wp Pens_init d mc ms Q 100 [(78, 3, 6, 6, 1143, 12, .putfield 50), (81, 1, 0, 0, 0, 0, .aload_n 0), (82, 2, 0, 0, 0, (-6), .bipush (-6)), (84, 3, 6, 7, 1144, 0, .putfield 54), (87, 1, 0, 0, 0, 0, .aload_n 0), (88, 2, 0, 0, 0, (-6), .bipush (-6)), (90, 3, 6, 8, 1145, 0, .putfield 58), (93, 1, 0, 0, 0, 0, .aload_n 0), (94, 2, 0, 0, 0, (-6), .bipush (-6)), (96, 3, 6, 9, 1146, 0, .putfield 61), (99, 1, 0, 0, 0, 0, .return_)] cs ss L st h) : G Pens_init d mc ms cs ss 78 L st h Q := G.run (by decide +kernel) hw
/-! blocks of Thinning_init -/
theorem ml_Thinning_init : (g_m Thinning_init).2.2.1 = 1 := rfl
theorem rt_Thinning_init : (g_m Thinning_init).2.2.2.1 = none := rfl
theorem B_Thinning_init_0 {d mc ms cs ss : Nat} {L : List (Option Value)} {st : List Value} {h : g_H} {Q : g_Po} (hw : g_wp Thinning_init d mc ms Q 13 [(0, 1, 0, 0, 0, 0, .aload_n 0), (1, 3, 9999, 0, 1092, 0, .invokespecial 3), (4, 1, 0, 0, 0, 0, .aload_n 0), (5, 2, 0, 0, 0, 31, .bipush 31), (7, 2, 0, 31, 1054, 0, .newarray .int), (9, 3, 4, 0, 1093, 12, .putfield 9), (12, 1, 0, 0, 0, 0, .return_)] cs ss L st h) : G Thinning_init d mc ms cs ss 0 L st h Q := G.run (by decide +kernel) hw
/-! blocks of Welding_init -/
theorem ml_Welding_init : (g_m Welding_init).2.2.1 = 1 := rfl
theorem rt_Welding_init : (g_m Welding_init).2.2.2.1 = none := rfl
theorem B_Welding_init_0 {d mc ms cs ss : Nat} {L : List (Option Value)} {st : List Value} {h : g_H} {Q : g_Po} (hw : g_wp Welding_init d mc ms Q 12 [(0, 1, 0, 0, 0, 0, .aload_n 0), (1, 3, 9999, 0, 1102, 0, .invokespecial 3), (4, 1, 0, 0, 0, 0, .aload_n 0), (5, 2, 0, 0, 0, 20, .bipush 20), (7, 2, 0, 20, 1054, 0, .newarray .int), (9, 3, 5, 0, 1103, 12, .putfield 11)] cs ss L st h) : G Welding_init d mc ms cs ss 0 L st h Q := G.run (by decide +kernel) hw
theorem B_Welding_init_12 {d mc ms cs ss : Nat} {L : List (Option Value)} {st : List Value} {h : g_H} {Q : g_Po} (hw : g_wp Welding_init d mc ms Q 20 [(12, 1, 0, 0, 0, 0, .aload_n 0), (13, 2, 0, 0, 0, 20, .bipush 20), (15, 2, 0, 20, 1054, 0, .newarray .int), (17, 3, 5, 1, 1104, 12, .putfield 15)] cs ss L st h) : G Welding_init d mc ms cs ss 12 L st h Q := G.run (by decide +kernel) hw
theorem B_Welding_init_20 {d mc ms cs ss : Nat} {L : List (Option Value)} {st : List Value} {h : g_H} {Q : g_Po} (hw : g_wp Welding_init d mc ms Q 28 [(20, 1, 0, 0, 0, 0, .aload_n 0), (21, 2, 0, 0, 0, 20, .bipush 20), (23, 2, 0, 20, 1054, 0, .newarray .int), (25, 3, 5, 2, 1105, 12, .putfield 18)] cs ss L st h) : G Welding_init d mc ms cs ss 20 L st h Q := G.run (by decide +kernel) hw
theorem B_Welding_init_28 {d mc ms cs ss : Nat} {L : List (Option Value)} {st : List Value} {h : g_H} {Q : g_Po} (hw : g_wp Welding_init d mc ms Q 36 [(28, 1, 0, 0, 0, 0, .aload_n 0), (29, 2, 0, 0, 0, 20, .bipush 20), (31, 2, 0, 20, 1054, 0, .newarray .int), (33, 3, 5, 3, 1106, 12, .putfield 21)] cs ss L st h) : G Welding_init d mc ms cs ss 28 L st h Q := G.run (by decide +kernel) hw
theorem B_Welding_init_36 {d mc ms cs ss : Nat} {L : List (Option Value)} {st : List Value} {h : g_H} {Q : g_Po} (hw : g_wp Welding_init d mc ms Q 37 [(36, 1, 0, 0, 0, 0, .return_)] cs ss L st h) : G Welding_init d mc ms cs ss 36 L st h Q := G.run (by decide +kernel) hw
/-! blocks of Text_init -/
theorem ml_Text_init : (g_m Text_init).2.2.1 = 1 := rfl
theorem rt_Text_init : (g_m Text_init).2.2.2.1 = none := rfl
theorem B_Text_init_0 {d mc ms cs ss : Nat} {L : List (Option Value)} {st : List Value} {h : g_H} {Q : g_Po} (hw : g_wp Text_init d mc ms Q 20 [(0, 1, 0, 0, 0, 0, .aload_n 0), (1, 3, 9999, 0, 1124, 0, .invokespecial 3), (4, 1, 0, 0, 0, 0, .aload_n 0), (5, 2, 0, 0, 0, 80, .bipush 80), (7, 2, 1, 80, 1136, 0, .newarray .char), (9, 3, 3, 0, 1127, 12, .putfield 9), (12, 1, 0, 0, 0, 0, .aload_n 0), (13, 3, 2, 3, 1125, 0, .new 15), (16, 1, 0, 0, 0, 0, .dup), (17, 3, 32, 0, 1126, 0, .invokespecial 17)] cs ss L st h) : G Text_init d mc ms cs ss 0 L st h Q := G.run (by decide +kernel) hw
theorem B_Text_init_20 {d mc ms cs ss : Nat} {L : List (Option Value)} {st : List Value} {h : g_H} {Q : g_Po} (hw : g_wp Text_init d mc ms Q 24 [(20, 3, 3, 1, 1128, 12, .putfield 18), (23, 1, 0, 0, 0, 0, .return_)] cs ss L st h) : G Text_init d mc ms cs ss 20 L st h Q := G.run (by decide +kernel) hw
theorem rep_bd {S : Stk} (h : S.1.length ≤ 30) : rep S = -6 ∨ (0 ≤ rep S ∧ rep S ≤ 30) := by
  have hrr := rpt_rng S.1 (S.1.length - 1) 1
  unfold rep
  split
  · split <;> omega
  · omega
theorem frb_bd (R : List Stk) : ∀ m i, (frb R m i).1 = -6 ∨ 0 ≤ (frb R m i).1 := by
  intro m
  induction m with
  | zero => intro i; exact Or.inl rfl
  | succ m ih =>
    intro i
    unfold frb
    split
    · exact Or.inr (by show (0 : Int) ≤ i; omega)
    · exact ih (i + 1)