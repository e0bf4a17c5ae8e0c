/-! ===== the class's methods: read, digest, the constructor ===== -/
theorem sm_b1 (f : Nat → Int) (A : Int) (n : Nat) (h : ∀ i, i < n → 0 ≤ f i ∧ f i ≤ A) : 0 ≤ sm f n ∧ sm f n ≤ A * n := by
  induction n with
  | zero => exact ⟨Int.le_refl _, by simp [sm]⟩
  | succ n ih =>
    have h1 := ih (fun i hi => h i (by omega))
    have h2 := h n (by omega)
    show 0 ≤ sm f n + f n ∧ sm f n + f n ≤ A * ((n + 1 : Nat) : Int)
    rw [show A * ((n + 1 : Nat) : Int) = A * n + A by rw [Int.natCast_add, Int.mul_add]; simp]
    omega
theorem cpf_bd (p q : Int) {S : Stk} (hS : S.1.length ≤ 30) (b : Nat) : 0 ≤ cpf p q S b ∧ cpf p q S b ≤ 30 := by
  have h := sm_b1 (fun j => if b ≤ j ∧ pcr p q (pg S.1 j) (pr S.1 (j + 1)) = true then 1 else 0) 1 (pcs S) (fun i _ => by split <;> omega)
  have := pcs_le (S := S)
  unfold cpf
  omega
theorem cx2_bd {A B : Stk} (hA : A.1.length ≤ 30) (hB : B.1.length ≤ 30) : 0 ≤ cx2 A B ∧ cx2 A B ≤ 900 := by
  have h := sm_b1 (fun i => cpf (pg A.1 i) (pr A.1 (i + 1)) B 0) 30 (pcs A) (fun i _ => cpf_bd _ _ hB _)
  have := pcs_le (S := A)
  unfold cx2
  omega
theorem figS_bd {S : Stk} (w : wfS S) (v : Nat) : i32 (figS S v) := by
  obtain ⟨w1, w2, w3, w4, w5⟩ := w
  have hpc := pcs_le (S := S)
  have hz := sz_bd S.2
  have ha := area_bd w3 (by omega) w2
  have h2 : -59880060 ≤ lenS S ∧ lenS S ≤ 59880060 := by
    have := sm_bd (fun i => rt (100 * sqd (pg S.1 i) (pr S.1 (i + 1)))) (pcs S) (fun i hi => by
      have b1 := sqd_bd (w3 i (by omega)) (pr_pt (i := i + 1) w3 (by omega))
      have b2 := rt_ok (n := 100 * sqd (pg S.1 i) (pr S.1 (i + 1))) (by omega) (by omega)
      omega)
    unfold lenS
    omega
  have h5 : 0 ≤ cseS S ∧ cseS S ≤ 900 := by
    have h := sm_b1 (fun i => cpf (pg S.1 i) (pr S.1 (i + 1)) S (i + 1)) 30 (pcs S) (fun i _ => cpf_bd _ _ w2 _)
    unfold cseS
    omega
  have h6 : ∀ x z, 0 ≤ bndS S x z ∧ bndS S x z ≤ 999 := fun x z => by
    refine bnf_bd _ _ _ (fun j hj => ?_)
    have := w3 j (by omega)
    split <;> omega
  unfold figS
  repeat' split
  all_goals first | omega | (have := h6 (decide (v < 8)) (decide (v = 7 ∨ v = 9)); omega)
/-! blocks of Pens_digest -/
theorem ml_Pens_digest : (g_m Pens_digest).2.2.1 = 7 := rfl
theorem rt_Pens_digest : (g_m Pens_digest).2.2.2.1 = (some .long) := rfl
theorem B_Pens_digest_0 {d mc ms cs ss : Nat} {L : List (Option Value)} {st : List Value} {h : g_H} {Q : g_Po} (hw : g_wp Pens_digest d mc ms Q 39 [(0, 3, 0, 0, 3137, 866, .ldc2_w 213), (3, 1, 0, 0, 0, 0, .lstore_n 1), (4, 3, 0, 0, 3138, 31, .ldc2_w 215), (7, 1, 0, 0, 0, 0, .lload_n 1), (8, 1, 0, 0, 0, 0, .lmul), (9, 1, 0, 0, 0, 0, .aload_n 0), (10, 3, 6, 0, 1143, 2, .getfield 10), (13, 3, 0, 1, 1059, 2, .getfield 70), (16, 3, 2, 1, 1036, 0, .getfield 73), (19, 1, 0, 0, 0, 0, .i2l), (20, 1, 0, 0, 0, 0, .ladd), (21, 1, 0, 0, 0, 0, .lstore_n 1), (22, 3, 0, 0, 3138, 31, .ldc2_w 215), (25, 1, 0, 0, 0, 0, .lload_n 1), (26, 1, 0, 0, 0, 0, .lmul), (27, 1, 0, 0, 0, 0, .aload_n 0), (28, 3, 6, 0, 1143, 2, .getfield 10), (31, 3, 0, 2, 1061, 0, .getfield 76), (34, 1, 0, 0, 0, 0, .i2l), (35, 1, 0, 0, 0, 0, .ladd), (36, 1, 0, 0, 0, 0, .lstore_n 1), (37, 1, 0, 0, 0, 0, .iconst 0), (38, 1, 0, 0, 0, 0, .istore_n 3)] cs ss L st h) : G Pens_digest d mc ms cs ss 0 L st h Q := G.run (by decide +kernel) hw
theorem B_Pens_digest_39 {d mc ms cs ss : Nat} {L : List (Option Value)} {st : List Value} {h : g_H} {Q : g_Po} (hw : g_wp Pens_digest d mc ms Q 50 [(39, 1, 0, 0, 0, 0, .iload_n 3), (40, 1, 0, 0, 0, 0, .aload_n 0), (41, 3, 6, 0, 1143, 2, .getfield 10), (44, 3, 0, 2, 1061, 0, .getfield 76), (47, 3, 141, 0, 0, 0, .if_icmp .ge 94)] cs ss L st h) : G Pens_digest d mc ms cs ss 39 L st h Q := G.run (by decide +kernel) hw
theorem B_Pens_digest_50 {d mc ms cs ss : Nat} {L : List (Option Value)} {st : List Value} {h : g_H} {Q : g_Po} (hw : g_wp Pens_digest d mc ms Q 58 [(50, 1, 0, 0, 0, 0, .aload_n 0), (51, 3, 6, 0, 1143, 2, .getfield 10), (54, 1, 0, 0, 0, 0, .iload_n 3), (55, 3, 1, 0, 2005, 1, .invokevirtual 100)] cs ss L st h) : G Pens_digest d mc ms cs ss 50 L st h Q := G.run (by decide +kernel) hw
theorem B_Pens_digest_58 {d mc ms cs ss : Nat} {L : List (Option Value)} {st : List Value} {h : g_H} {Q : g_Po} (hw : g_wp Pens_digest d mc ms Q 63 [(58, 2, 0, 0, 0, 0, .astore 4), (60, 1, 0, 0, 0, 0, .iconst 0), (61, 2, 0, 0, 0, 0, .istore 5)] cs ss L st h) : G Pens_digest d mc ms cs ss 58 L st h Q := G.run (by decide +kernel) hw
theorem B_Pens_digest_63 {d mc ms cs ss : Nat} {L : List (Option Value)} {st : List Value} {h : g_H} {Q : g_Po} (hw : g_wp Pens_digest d mc ms Q 68 [(63, 2, 0, 0, 0, 0, .aload 4), (65, 3, 96, 0, 0, 0, .ifnull 31)] cs ss L st h) : G Pens_digest d mc ms cs ss 63 L st h Q := G.run (by decide +kernel) hw
theorem B_Pens_digest_68 {d mc ms cs ss : Nat} {L : List (Option Value)} {st : List Value} {h : g_H} {Q : g_Po} (hw : g_wp Pens_digest d mc ms Q 75 [(68, 2, 0, 0, 0, 0, .iload 5), (70, 2, 0, 0, 0, 9, .bipush 9), (72, 3, 96, 0, 0, 0, .if_icmp .gt 24)] cs ss L st h) : G Pens_digest d mc ms cs ss 68 L st h Q := G.run (by decide +kernel) hw
theorem B_Pens_digest_75 {d mc ms cs ss : Nat} {L : List (Option Value)} {st : List Value} {h : g_H} {Q : g_Po} (hw : g_wp Pens_digest d mc ms Q 87 [(75, 3, 0, 0, 3138, 31, .ldc2_w 215), (78, 1, 0, 0, 0, 0, .lload_n 1), (79, 1, 0, 0, 0, 0, .lmul), (80, 2, 0, 0, 0, 0, .aload 4), (82, 2, 0, 0, 0, 0, .iload 5), (84, 3, 16, 0, 2234, 2, .invokestatic 171)] cs ss L st h) : G Pens_digest d mc ms cs ss 75 L st h Q := G.run (by decide +kernel) hw
theorem B_Pens_digest_87 {d mc ms cs ss : Nat} {L : List (Option Value)} {st : List Value} {h : g_H} {Q : g_Po} (hw : g_wp Pens_digest d mc ms Q 96 [(87, 1, 0, 0, 0, 0, .i2l), (88, 1, 0, 0, 0, 0, .ladd), (89, 1, 0, 0, 0, 0, .lstore_n 1), (90, 3, 0, 0, 0, 1, .iinc 5 1), (93, 3, 63, 0, 0, 0, .goto (-30))] cs ss L st h) : G Pens_digest d mc ms cs ss 87 L st h Q := G.run (by decide +kernel) hw
theorem B_Pens_digest_96 {d mc ms cs ss : Nat} {L : List (Option Value)} {st : List Value} {h : g_H} {Q : g_Po} (hw : g_wp Pens_digest d mc ms Q 99 [(96, 1, 0, 0, 0, 0, .iconst 0), (97, 2, 0, 0, 0, 0, .istore 5)] cs ss L st h) : G Pens_digest d mc ms cs ss 96 L st h Q := G.run (by decide +kernel) hw
theorem B_Pens_digest_99 {d mc ms cs ss : Nat} {L : List (Option Value)} {st : List Value} {h : g_H} {Q : g_Po} (hw : g_wp Pens_digest d mc ms Q 104 [(99, 2, 0, 0, 0, 0, .aload 4), (101, 3, 135, 0, 0, 0, .ifnull 34)] cs ss L st h) : G Pens_digest d mc ms cs ss 99 L st h Q := G.run (by decide +kernel) hw
theorem B_Pens_digest_104 {d mc ms cs ss : Nat} {L : List (Option Value)} {st : List Value} {h : g_H} {Q : g_Po} (hw : g_wp Pens_digest d mc ms Q 114 [(104, 2, 0, 0, 0, 0, .iload 5), (106, 2, 0, 0, 0, 0, .aload 4), (108, 3, 2, 1, 1036, 0, .getfield 73), (111, 3, 135, 0, 0, 0, .if_icmp .ge 24)] cs ss L st h) : G Pens_digest d mc ms cs ss 104 L st h Q := G.run (by decide +kernel) hw
theorem B_Pens_digest_114 {d mc ms cs ss : Nat} {L : List (Option Value)} {st : List Value} {h : g_H} {Q : g_Po} (hw : g_wp Pens_digest d mc ms Q 126 [(114, 3, 0, 0, 3138, 31, .ldc2_w 215), (117, 1, 0, 0, 0, 0, .lload_n 1), (118, 1, 0, 0, 0, 0, .lmul), (119, 2, 0, 0, 0, 0, .aload 4), (121, 2, 0, 0, 0, 0, .iload 5), (123, 3, 34, 2, 2185, 1, .invokevirtual 131)] cs ss L st h) : G Pens_digest d mc ms cs ss 114 L st h Q := G.run (by decide +kernel) hw
theorem B_Pens_digest_126 {d mc ms cs ss : Nat} {L : List (Option Value)} {st : List Value} {h : g_H} {Q : g_Po} (hw : g_wp Pens_digest d mc ms Q 135 [(126, 1, 0, 0, 0, 0, .i2l), (127, 1, 0, 0, 0, 0, .ladd), (128, 1, 0, 0, 0, 0, .lstore_n 1), (129, 3, 0, 0, 0, 1, .iinc 5 1), (132, 3, 99, 0, 0, 0, .goto (-33))] cs ss L st h) : G Pens_digest d mc ms cs ss 126 L st h Q := G.run (by decide +kernel) hw
theorem B_Pens_digest_135 {d mc ms cs ss : Nat} {L : List (Option Value)} {st : List Value} {h : g_H} {Q : g_Po} (hw : g_wp Pens_digest d mc ms Q 141 [(135, 3, 0, 0, 0, 1, .iinc 3 1), (138, 3, 39, 0, 0, 0, .goto (-99))] cs ss L st h) : G Pens_digest d mc ms cs ss 135 L st h Q := G.run (by decide +kernel) hw
theorem B_Pens_digest_141 {d mc ms cs ss : Nat} {L : List (Option Value)} {st : List Value} {h : g_H} {Q : g_Po} (hw : g_wp Pens_digest d mc ms Q 143 [(141, 1, 0, 0, 0, 0, .iconst 0), (142, 1, 0, 0, 0, 0, .istore_n 3)] cs ss L st h) : G Pens_digest d mc ms cs ss 141 L st h Q := G.run (by decide +kernel) hw
theorem B_Pens_digest_143 {d mc ms cs ss : Nat} {L : List (Option Value)} {st : List Value} {h : g_H} {Q : g_Po} (hw : g_wp Pens_digest d mc ms Q 154 [(143, 1, 0, 0, 0, 0, .iload_n 3), (144, 1, 0, 0, 0, 0, .aload_n 0), (145, 3, 6, 0, 1143, 2, .getfield 10), (148, 3, 0, 2, 1061, 0, .getfield 76), (151, 3, 229, 0, 0, 0, .if_icmp .ge 78)] cs ss L st h) : G Pens_digest d mc ms cs ss 143 L st h Q := G.run (by decide +kernel) hw
theorem B_Pens_digest_154 {d mc ms cs ss : Nat} {L : List (Option Value)} {st : List Value} {h : g_H} {Q : g_Po} (hw : g_wp Pens_digest d mc ms Q 162 [(154, 1, 0, 0, 0, 0, .aload_n 0), (155, 3, 6, 0, 1143, 2, .getfield 10), (158, 1, 0, 0, 0, 0, .iload_n 3), (159, 3, 1, 0, 2005, 1, .invokevirtual 100)] cs ss L st h) : G Pens_digest d mc ms cs ss 154 L st h Q := G.run (by decide +kernel) hw
theorem B_Pens_digest_162 {d mc ms cs ss : Nat} {L : List (Option Value)} {st : List Value} {h : g_H} {Q : g_Po} (hw : g_wp Pens_digest d mc ms Q 169 [(162, 2, 0, 0, 0, 0, .astore 4), (164, 1, 0, 0, 0, 0, .iload_n 3), (165, 1, 0, 0, 0, 1, .iconst 1), (166, 1, 0, 0, 0, 0, .iadd), (167, 2, 0, 0, 0, 0, .istore 5)] cs ss L st h) : G Pens_digest d mc ms cs ss 162 L st h Q := G.run (by decide +kernel) hw
theorem B_Pens_digest_169 {d mc ms cs ss : Nat} {L : List (Option Value)} {st : List Value} {h : g_H} {Q : g_Po} (hw : g_wp Pens_digest d mc ms Q 181 [(169, 2, 0, 0, 0, 0, .iload 5), (171, 1, 0, 0, 0, 0, .aload_n 0), (172, 3, 6, 0, 1143, 2, .getfield 10), (175, 3, 0, 2, 1061, 0, .getfield 76), (178, 3, 223, 0, 0, 0, .if_icmp .ge 45)] cs ss L st h) : G Pens_digest d mc ms cs ss 169 L st h Q := G.run (by decide +kernel) hw
theorem B_Pens_digest_181 {d mc ms cs ss : Nat} {L : List (Option Value)} {st : List Value} {h : g_H} {Q : g_Po} (hw : g_wp Pens_digest d mc ms Q 190 [(181, 1, 0, 0, 0, 0, .aload_n 0), (182, 3, 6, 0, 1143, 2, .getfield 10), (185, 2, 0, 0, 0, 0, .iload 5), (187, 3, 1, 0, 2005, 1, .invokevirtual 100)] cs ss L st h) : G Pens_digest d mc ms cs ss 181 L st h Q := G.run (by decide +kernel) hw
theorem B_Pens_digest_190 {d mc ms cs ss : Nat} {L : List (Option Value)} {st : List Value} {h : g_H} {Q : g_Po} (hw : g_wp Pens_digest d mc ms Q 197 [(190, 2, 0, 0, 0, 0, .astore 6), (192, 2, 0, 0, 0, 0, .aload 4), (194, 3, 217, 0, 0, 0, .ifnull 23)] cs ss L st h) : G Pens_digest d mc ms cs ss 190 L st h Q := G.run (by decide +kernel) hw
theorem B_Pens_digest_197 {d mc ms cs ss : Nat} {L : List (Option Value)} {st : List Value} {h : g_H} {Q : g_Po} (hw : g_wp Pens_digest d mc ms Q 202 [(197, 2, 0, 0, 0, 0, .aload 6), (199, 3, 217, 0, 0, 0, .ifnull 18)] cs ss L st h) : G Pens_digest d mc ms cs ss 197 L st h Q := G.run (by decide +kernel) hw
theorem B_Pens_digest_202 {d mc ms cs ss : Nat} {L : List (Option Value)} {st : List Value} {h : g_H} {Q : g_Po} (hw : g_wp Pens_digest d mc ms Q 214 [(202, 3, 0, 0, 3138, 31, .ldc2_w 215), (205, 1, 0, 0, 0, 0, .lload_n 1), (206, 1, 0, 0, 0, 0, .lmul), (207, 2, 0, 0, 0, 0, .aload 4), (209, 2, 0, 0, 0, 0, .aload 6), (211, 3, 21, 0, 3041, 2, .invokestatic 177)] cs ss L st h) : G Pens_digest d mc ms cs ss 202 L st h Q := G.run (by decide +kernel) hw
theorem B_Pens_digest_214 {d mc ms cs ss : Nat} {L : List (Option Value)} {st : List Value} {h : g_H} {Q : g_Po} (hw : g_wp Pens_digest d mc ms Q 217 [(214, 1, 0, 0, 0, 0, .i2l), (215, 1, 0, 0, 0, 0, .ladd), (216, 1, 0, 0, 0, 0, .lstore_n 1)] cs ss L st h) : G Pens_digest d mc ms cs ss 214 L st h Q := G.run (by decide +kernel) hw
theorem B_Pens_digest_217 {d mc ms cs ss : Nat} {L : List (Option Value)} {st : List Value} {h : g_H} {Q : g_Po} (hw : g_wp Pens_digest d mc ms Q 223 [(217, 3, 0, 0, 0, 1, .iinc 5 1), (220, 3, 169, 0, 0, 0, .goto (-51))] cs ss L st h) : G Pens_digest d mc ms cs ss 217 L st h Q := G.run (by decide +kernel) hw
theorem B_Pens_digest_223 {d mc ms cs ss : Nat} {L : List (Option Value)} {st : List Value} {h : g_H} {Q : g_Po} (hw : g_wp Pens_digest d mc ms Q 229 [(223, 3, 0, 0, 0, 1, .iinc 3 1), (226, 3, 143, 0, 0, 0, .goto (-83))] cs ss L st h) : G Pens_digest d mc ms cs ss 223 L st h Q := G.run (by decide +kernel) hw
theorem B_Pens_digest_229 {d mc ms cs ss : Nat} {L : List (Option Value)} {st : List Value} {h : g_H} {Q : g_Po} (hw : g_wp Pens_digest d mc ms Q 231 [(229, 1, 0, 0, 0, 0, .lload_n 1), (230, 1, 0, 0, 0, 0, .lreturn)] cs ss L st h) : G Pens_digest d mc ms cs ss 229 L st h Q := G.run (by decide +kernel) hw
/-! blocks of Pens_read -/
theorem ml_Pens_read : (g_m Pens_read).2.2.1 = 4 := rfl
theorem rt_Pens_read : (g_m Pens_read).2.2.2.1 = (some .int) := rfl
theorem B_Pens_read_0 {d mc ms cs ss : Nat} {L : List (Option Value)} {st : List Value} {h : g_H} {Q : g_Po} (hw : g_wp Pens_read d mc ms Q 7 [(0, 1, 0, 0, 0, 0, .aload_n 0), (1, 3, 6, 6, 1149, 2, .getfield 50), (4, 3, 50, 3, 3090, 0, .invokevirtual 196)] cs ss L st h) : G Pens_read d mc ms cs ss 0 L st h Q := G.run (by decide +kernel) hw
theorem B_Pens_read_7 {d mc ms cs ss : Nat} {L : List (Option Value)} {st : List Value} {h : g_H} {Q : g_Po} (hw : g_wp Pens_read d mc ms Q 12 [(7, 2, 0, 0, 0, (-6), .bipush (-6)), (9, 3, 23, 0, 0, 0, .if_icmp .eq 14)] cs ss L st h) : G Pens_read d mc ms cs ss 7 L st h Q := G.run (by decide +kernel) hw
theorem B_Pens_read_12 {d mc ms cs ss : Nat} {L : List (Option Value)} {st : List Value} {h : g_H} {Q : g_Po} (hw : g_wp Pens_read d mc ms Q 22 [(12, 1, 0, 0, 0, 0, .aload_n 0), (13, 2, 0, 0, 0, (-5), .bipush (-5)), (15, 2, 0, 0, 0, (-6), .bipush (-6)), (17, 2, 0, 0, 0, (-6), .bipush (-6)), (19, 3, 103, 6, 3108, 3, .invokevirtual 199)] cs ss L st h) : G Pens_read d mc ms cs ss 12 L st h Q := G.run (by decide +kernel) hw
theorem B_Pens_read_22 {d mc ms cs ss : Nat} {L : List (Option Value)} {st : List Value} {h : g_H} {Q : g_Po} (hw : g_wp Pens_read d mc ms Q 23 [(22, 1, 0, 0, 0, 0, .ireturn)] cs ss L st h) : G Pens_read d mc ms cs ss 22 L st h Q := G.run (by decide +kernel) hw
theorem B_Pens_read_23 {d mc ms cs ss : Nat} {L : List (Option Value)} {st : List Value} {h : g_H} {Q : g_Po} (hw : g_wp Pens_read d mc ms Q 36 [(23, 1, 0, 0, 0, 0, .aload_n 0), (24, 3, 6, 0, 1143, 2, .getfield 10), (27, 3, 0, 1, 1059, 2, .getfield 70), (30, 3, 2, 1, 1036, 0, .getfield 73), (33, 3, 47, 0, 0, 0, .ifCond .le 14)] cs ss L st h) : G Pens_read d mc ms cs ss 23 L st h Q := G.run (by decide +kernel) hw
theorem B_Pens_read_36 {d mc ms cs ss : Nat} {L : List (Option Value)} {st : List Value} {h : g_H} {Q : g_Po} (hw : g_wp Pens_read d mc ms Q 46 [(36, 1, 0, 0, 0, 0, .aload_n 0), (37, 2, 0, 0, 0, (-3), .bipush (-3)), (39, 2, 0, 0, 0, (-6), .bipush (-6)), (41, 2, 0, 0, 0, (-6), .bipush (-6)), (43, 3, 103, 6, 3108, 3, .invokevirtual 199)] cs ss L st h) : G Pens_read d mc ms cs ss 36 L st h Q := G.run (by decide +kernel) hw
theorem B_Pens_read_46 {d mc ms cs ss : Nat} {L : List (Option Value)} {st : List Value} {h : g_H} {Q : g_Po} (hw : g_wp Pens_read d mc ms Q 47 [(46, 1, 0, 0, 0, 0, .ireturn)] cs ss L st h) : G Pens_read d mc ms cs ss 46 L st h Q := G.run (by decide +kernel) hw
theorem B_Pens_read_47 {d mc ms cs ss : Nat} {L : List (Option Value)} {st : List Value} {h : g_H} {Q : g_Po} (hw : g_wp Pens_read d mc ms Q 58 [(47, 1, 0, 0, 0, 0, .aload_n 0), (48, 3, 6, 6, 1149, 2, .getfield 50), (51, 1, 0, 0, 0, 0, .aload_n 0), (52, 3, 6, 1, 1144, 2, .getfield 16), (55, 3, 52, 3, 3112, 1, .invokevirtual 203)] cs ss L st h) : G Pens_read d mc ms cs ss 47 L st h Q := G.run (by decide +kernel) hw
theorem B_Pens_read_58 {d mc ms cs ss : Nat} {L : List (Option Value)} {st : List Value} {h : g_H} {Q : g_Po} (hw : g_wp Pens_read d mc ms Q 60 [(58, 1, 0, 0, 0, 0, .iconst 0), (59, 1, 0, 0, 0, 0, .istore_n 1)] cs ss L st h) : G Pens_read d mc ms cs ss 58 L st h Q := G.run (by decide +kernel) hw
theorem B_Pens_read_60 {d mc ms cs ss : Nat} {L : List (Option Value)} {st : List Value} {h : g_H} {Q : g_Po} (hw : g_wp Pens_read d mc ms Q 71 [(60, 1, 0, 0, 0, 0, .iload_n 1), (61, 1, 0, 0, 0, 0, .aload_n 0), (62, 3, 6, 1, 1144, 2, .getfield 16), (65, 3, 0, 2, 1061, 0, .getfield 76), (68, 3, 115, 0, 0, 0, .if_icmp .ge 47)] cs ss L st h) : G Pens_read d mc ms cs ss 60 L st h Q := G.run (by decide +kernel) hw
theorem B_Pens_read_71 {d mc ms cs ss : Nat} {L : List (Option Value)} {st : List Value} {h : g_H} {Q : g_Po} (hw : g_wp Pens_read d mc ms Q 79 [(71, 1, 0, 0, 0, 0, .aload_n 0), (72, 3, 6, 1, 1144, 2, .getfield 16), (75, 1, 0, 0, 0, 0, .iload_n 1), (76, 3, 1, 0, 2005, 1, .invokevirtual 100)] cs ss L st h) : G Pens_read d mc ms cs ss 71 L st h Q := G.run (by decide +kernel) hw
theorem B_Pens_read_79 {d mc ms cs ss : Nat} {L : List (Option Value)} {st : List Value} {h : g_H} {Q : g_Po} (hw : g_wp Pens_read d mc ms Q 84 [(79, 1, 0, 0, 0, 0, .astore_n 2), (80, 1, 0, 0, 0, 0, .aload_n 2), (81, 3, 89, 0, 0, 0, .ifnonnull 8)] cs ss L st h) : G Pens_read d mc ms cs ss 79 L st h Q := G.run (by decide +kernel) hw
theorem B_Pens_read_84 {d mc ms cs ss : Nat} {L : List (Option Value)} {st : List Value} {h : g_H} {Q : g_Po} (hw : g_wp Pens_read d mc ms Q 89 [(84, 2, 0, 0, 0, (-6), .bipush (-6)), (86, 3, 93, 0, 0, 0, .goto 7)] cs ss L st h) : G Pens_read d mc ms cs ss 84 L st h Q := G.run (by decide +kernel) hw
theorem B_Pens_read_89 {d mc ms cs ss : Nat} {L : List (Option Value)} {st : List Value} {h : g_H} {Q : g_Po} (hw : g_wp Pens_read d mc ms Q 93 [(89, 1, 0, 0, 0, 0, .aload_n 2), (90, 3, 45, 2, 3120, 0, .invokevirtual 206)] cs ss L st h) : G Pens_read d mc ms cs ss 89 L st h Q := G.run (by decide +kernel) hw
theorem B_Pens_read_93 {d mc ms cs ss : Nat} {L : List (Option Value)} {st : List Value} {h : g_H} {Q : g_Po} (hw : g_wp Pens_read d mc ms Q 100 [(93, 1, 0, 0, 0, 0, .istore_n 3), (94, 1, 0, 0, 0, 0, .iload_n 3), (95, 2, 0, 0, 0, (-6), .bipush (-6)), (97, 3, 109, 0, 0, 0, .if_icmp .eq 12)] cs ss L st h) : G Pens_read d mc ms cs ss 93 L st h Q := G.run (by decide +kernel) hw
theorem B_Pens_read_100 {d mc ms cs ss : Nat} {L : List (Option Value)} {st : List Value} {h : g_H} {Q : g_Po} (hw : g_wp Pens_read d mc ms Q 108 [(100, 1, 0, 0, 0, 0, .aload_n 0), (101, 2, 0, 0, 0, (-3), .bipush (-3)), (103, 1, 0, 0, 0, 0, .iload_n 1), (104, 1, 0, 0, 0, 0, .iload_n 3), (105, 3, 103, 6, 3108, 3, .invokevirtual 199)] cs ss L st h) : G Pens_read d mc ms cs ss 100 L st h Q := G.run (by decide +kernel) hw
theorem B_Pens_read_108 {d mc ms cs ss : Nat} {L : List (Option Value)} {st : List Value} {h : g_H} {Q : g_Po} (hw : g_wp Pens_read d mc ms Q 109 [(108, 1, 0, 0, 0, 0, .ireturn)] cs ss L st h) : G Pens_read d mc ms cs ss 108 L st h Q := G.run (by decide +kernel) hw
theorem B_Pens_read_109 {d mc ms cs ss : Nat} {L : List (Option Value)} {st : List Value} {h : g_H} {Q : g_Po} (hw : g_wp Pens_read d mc ms Q 115 [(109, 3, 0, 0, 0, 1, .iinc 1 1), (112, 3, 60, 0, 0, 0, .goto (-52))] cs ss L st h) : G Pens_read d mc ms cs ss 109 L st h Q := G.run (by decide +kernel) hw
theorem B_Pens_read_115 {d mc ms cs ss : Nat} {L : List (Option Value)} {st : List Value} {h : g_H} {Q : g_Po} (hw : g_wp Pens_read d mc ms Q 135 [(115, 1, 0, 0, 0, 0, .aload_n 0), (116, 3, 6, 0, 1143, 2, .getfield 10), (119, 3, 0, 2, 1061, 0, .getfield 76), (122, 1, 0, 0, 0, 0, .aload_n 0), (123, 3, 6, 1, 1144, 2, .getfield 16), (126, 3, 0, 2, 1061, 0, .getfield 76), (129, 1, 0, 0, 0, 0, .iadd), (130, 2, 0, 0, 0, 10, .bipush 10), (132, 3, 146, 0, 0, 0, .if_icmp .le 14)] cs ss L st h) : G Pens_read d mc ms cs ss 115 L st h Q := G.run (by decide +kernel) hw
theorem B_Pens_read_135 {d mc ms cs ss : Nat} {L : List (Option Value)} {st : List Value} {h : g_H} {Q : g_Po} (hw : g_wp Pens_read d mc ms Q 145 [(135, 1, 0, 0, 0, 0, .aload_n 0), (136, 2, 0, 0, 0, (-4), .bipush (-4)), (138, 2, 0, 0, 0, (-6), .bipush (-6)), (140, 2, 0, 0, 0, (-6), .bipush (-6)), (142, 3, 103, 6, 3108, 3, .invokevirtual 199)] cs ss L st h) : G Pens_read d mc ms cs ss 135 L st h Q := G.run (by decide +kernel) hw
theorem B_Pens_read_145 {d mc ms cs ss : Nat} {L : List (Option Value)} {st : List Value} {h : g_H} {Q : g_Po} (hw : g_wp Pens_read d mc ms Q 146 [(145, 1, 0, 0, 0, 0, .ireturn)] cs ss L st h) : G Pens_read d mc ms cs ss 145 L st h Q := G.run (by decide +kernel) hw
theorem B_Pens_read_146 {d mc ms cs ss : Nat} {L : List (Option Value)} {st : List Value} {h : g_H} {Q : g_Po} (hw : g_wp Pens_read d mc ms Q 157 [(146, 1, 0, 0, 0, 0, .aload_n 0), (147, 3, 6, 3, 1146, 2, .getfield 29), (150, 1, 0, 0, 0, 0, .aload_n 0), (151, 3, 6, 0, 1143, 2, .getfield 10), (154, 3, 7, 1, 1181, 1, .invokevirtual 77)] cs ss L st h) : G Pens_read d mc ms cs ss 146 L st h Q := G.run (by decide +kernel) hw
theorem B_Pens_read_157 {d mc ms cs ss : Nat} {L : List (Option Value)} {st : List Value} {h : g_H} {Q : g_Po} (hw : g_wp Pens_read d mc ms Q 159 [(157, 1, 0, 0, 0, 0, .iconst 0), (158, 1, 0, 0, 0, 0, .istore_n 1)] cs ss L st h) : G Pens_read d mc ms cs ss 157 L st h Q := G.run (by decide +kernel) hw
theorem B_Pens_read_159 {d mc ms cs ss : Nat} {L : List (Option Value)} {st : List Value} {h : g_H} {Q : g_Po} (hw : g_wp Pens_read d mc ms Q 170 [(159, 1, 0, 0, 0, 0, .iload_n 1), (160, 1, 0, 0, 0, 0, .aload_n 0), (161, 3, 6, 1, 1144, 2, .getfield 16), (164, 3, 0, 2, 1061, 0, .getfield 76), (167, 3, 197, 0, 0, 0, .if_icmp .ge 30)] cs ss L st h) : G Pens_read d mc ms cs ss 159 L st h Q := G.run (by decide +kernel) hw
theorem B_Pens_read_170 {d mc ms cs ss : Nat} {L : List (Option Value)} {st : List Value} {h : g_H} {Q : g_Po} (hw : g_wp Pens_read d mc ms Q 178 [(170, 1, 0, 0, 0, 0, .aload_n 0), (171, 3, 6, 1, 1144, 2, .getfield 16), (174, 1, 0, 0, 0, 0, .iload_n 1), (175, 3, 1, 0, 2005, 1, .invokevirtual 100)] cs ss L st h) : G Pens_read d mc ms cs ss 170 L st h Q := G.run (by decide +kernel) hw
theorem B_Pens_read_178 {d mc ms cs ss : Nat} {L : List (Option Value)} {st : List Value} {h : g_H} {Q : g_Po} (hw : g_wp Pens_read d mc ms Q 183 [(178, 1, 0, 0, 0, 0, .astore_n 2), (179, 1, 0, 0, 0, 0, .aload_n 2), (180, 3, 191, 0, 0, 0, .ifnull 11)] cs ss L st h) : G Pens_read d mc ms cs ss 178 L st h Q := G.run (by decide +kernel) hw
theorem B_Pens_read_183 {d mc ms cs ss : Nat} {L : List (Option Value)} {st : List Value} {h : g_H} {Q : g_Po} (hw : g_wp Pens_read d mc ms Q 191 [(183, 1, 0, 0, 0, 0, .aload_n 0), (184, 3, 6, 0, 1143, 2, .getfield 10), (187, 1, 0, 0, 0, 0, .aload_n 2), (188, 3, 2, 0, 1232, 1, .invokevirtual 93)] cs ss L st h) : G Pens_read d mc ms cs ss 183 L st h Q := G.run (by decide +kernel) hw
theorem B_Pens_read_191 {d mc ms cs ss : Nat} {L : List (Option Value)} {st : List Value} {h : g_H} {Q : g_Po} (hw : g_wp Pens_read d mc ms Q 197 [(191, 3, 0, 0, 0, 1, .iinc 1 1), (194, 3, 159, 0, 0, 0, .goto (-35))] cs ss L st h) : G Pens_read d mc ms cs ss 191 L st h Q := G.run (by decide +kernel) hw
theorem B_Pens_read_197 {d mc ms cs ss : Nat} {L : List (Option Value)} {st : List Value} {h : g_H} {Q : g_Po} (hw : g_wp Pens_read d mc ms Q 213 [(197, 1, 0, 0, 0, 0, .aload_n 0), (198, 3, 6, 6, 1149, 2, .getfield 50), (201, 1, 0, 0, 0, 0, .iconst 0), (202, 3, 3, 2, 1134, 0, .putfield 190), (205, 1, 0, 0, 0, 0, .aload_n 0), (206, 3, 6, 1, 1144, 2, .getfield 16), (209, 3, 0, 2, 1061, 0, .getfield 76), (212, 1, 0, 0, 0, 0, .ireturn)] cs ss L st h) : G Pens_read d mc ms cs ss 197 L st h Q := G.run (by decide +kernel) hw
/-! blocks of Pens_init -/
theorem ml_Pens_init : (g_m Pens_init).2.2.1 = 1 := rfl
theorem rt_Pens_init : (g_m Pens_init).2.2.2.1 = none := rfl
theorem B_Pens_init_0 {d mc ms cs ss : Nat} {L : List (Option Value)} {st : List Value} {h : g_H} {Q : g_Po} (hw : g_wp Pens_init d mc ms Q 12 [(0, 1, 0, 0, 0, 0, .aload_n 0), (1, 3, 9999, 0, 1019, 0, .invokespecial 1), (4, 1, 0, 0, 0, 0, .aload_n 0), (5, 3, 0, 3, 1022, 0, .new 7), (8, 1, 0, 0, 0, 0, .dup), (9, 3, 0, 0, 1024, 0, .invokespecial 9)] cs ss L st h) : G Pens_init d mc ms cs ss 0 L st h Q := G.run (by decide +kernel) hw
theorem B_Pens_init_12 {d mc ms cs ss : Nat} {L : List (Option Value)} {st : List Value} {h : g_H} {Q : g_Po} (hw : g_wp Pens_init d mc ms Q 23 [(12, 3, 6, 0, 1143, 12, .putfield 10), (15, 1, 0, 0, 0, 0, .aload_n 0), (16, 3, 0, 3, 1022, 0, .new 7), (19, 1, 0, 0, 0, 0, .dup), (20, 3, 0, 0, 1024, 0, .invokespecial 9)] cs ss L st h) : G Pens_init d mc ms cs ss 12 L st h Q := G.run (by decide +kernel) hw
theorem B_Pens_init_23 {d mc ms cs ss : Nat} {L : List (Option Value)} {st : List Value} {h : g_H} {Q : g_Po} (hw : g_wp Pens_init d mc ms Q 34 [(23, 3, 6, 1, 1144, 12, .putfield 16), (26, 1, 0, 0, 0, 0, .aload_n 0), (27, 3, 2, 3, 1072, 0, .new 19), (30, 1, 0, 0, 0, 0, .dup), (31, 3, 33, 0, 1073, 0, .invokespecial 21)] cs ss L st h) : G Pens_init d mc ms cs ss 23 L st h Q := G.run (by decide +kernel) hw
theorem B_Pens_init_34 {d mc ms cs ss : Nat} {L : List (Option Value)} {st : List Value} {h : g_H} {Q : g_Po} (hw : g_wp Pens_init d mc ms Q 45 [(34, 3, 6, 2, 1145, 12, .putfield 22), (37, 1, 0, 0, 0, 0, .aload_n 0), (38, 3, 1, 2, 1074, 0, .new 26), (41, 1, 0, 0, 0, 0, .dup), (42, 3, 6, 0, 1076, 0, .invokespecial 28)] cs ss L st h) : G Pens_init d mc ms cs ss 34 L st h Q := G.run (by decide +kernel) hw
theorem B_Pens_init_45 {d mc ms cs ss : Nat} {L : List (Option Value)} {st : List Value} {h : g_H} {Q : g_Po} (hw : g_wp Pens_init d mc ms Q 56 [(45, 3, 6, 3, 1146, 12, .putfield 29), (48, 1, 0, 0, 0, 0, .aload_n 0), (49, 3, 4, 1, 1091, 0, .new 33), (52, 1, 0, 0, 0, 0, .dup), (53, 3, 53, 0, 1093, 0, .invokespecial 35)] cs ss L st h) : G Pens_init d mc ms cs ss 45 L st h Q := G.run (by decide +kernel) hw
theorem B_Pens_init_56 {d mc ms cs ss : Nat} {L : List (Option Value)} {st : List Value} {h : g_H} {Q : g_Po} (hw : g_wp Pens_init d mc ms Q 67 [(56, 3, 6, 4, 1147, 12, .putfield 36), (59, 1, 0, 0, 0, 0, .aload_n 0), (60, 3, 5, 5, 1101, 0, .new 40), (63, 1, 0, 0, 0, 0, .dup), (64, 3, 64, 0, 1103, 0, .invokespecial 42)] cs ss L st h) : G Pens_init d mc ms cs ss 56 L st h Q := G.run (by decide +kernel) hw
theorem B_Pens_init_67 {d mc ms cs ss : Nat} {L : List (Option Value)} {st : List Value} {h : g_H} {Q : g_Po} (hw : g_wp Pens_init d mc ms Q 78 [(67, 3, 6, 5, 1148, 12, .putfield 43), (70, 1, 0, 0, 0, 0, .aload_n 0), (71, 3, 3, 3, 1123, 0, .new 47), (74, 1, 0, 0, 0, 0, .dup), (75, 3, 46, 0, 1125, 0, .invokespecial 49)] cs ss L st h) : G Pens_init d mc ms cs ss 67 L st h Q := G.run (by decide +kernel) hw
theorem B_Pens_init_78 {d mc ms cs ss : Nat} {L : List (Option Value)} {st : List Value} {h : g_H} {Q : g_Po} (hw : g_wp Pens_init d mc ms Q 100 [(78, 3, 6, 6, 1149, 12, .putfield 50), (81, 1, 0, 0, 0, 0, .aload_n 0), (82, 2, 0, 0, 0, (-6), .bipush (-6)), (84, 3, 6, 7, 1150, 0, .putfield 54), (87, 1, 0, 0, 0, 0, .aload_n 0), (88, 2, 0, 0, 0, (-6), .bipush (-6)), (90, 3, 6, 8, 1151, 0, .putfield 58), (93, 1, 0, 0, 0, 0, .aload_n 0), (94, 2, 0, 0, 0, (-6), .bipush (-6)), (96, 3, 6, 9, 1152, 0, .putfield 61), (99, 1, 0, 0, 0, 0, .return_)] cs ss L st h) : G Pens_init d mc ms cs ss 78 L st h Q := G.run (by decide +kernel) hw
/-! blocks of Thinning_init -/
theorem ml_Thinning_init : (g_m Thinning_init).2.2.1 = 1 := rfl
theorem rt_Thinning_init : (g_m Thinning_init).2.2.2.1 = none := rfl
theorem B_Thinning_init_0 {d mc ms cs ss : Nat} {L : List (Option Value)} {st : List Value} {h : g_H} {Q : g_Po} (hw : g_wp Thinning_init d mc ms Q 13 [(0, 1, 0, 0, 0, 0, .aload_n 0), (1, 3, 9999, 0, 1096, 0, .invokespecial 3), (4, 1, 0, 0, 0, 0, .aload_n 0), (5, 2, 0, 0, 0, 31, .bipush 31), (7, 2, 0, 31, 1056, 0, .newarray .int), (9, 3, 4, 0, 1097, 12, .putfield 9), (12, 1, 0, 0, 0, 0, .return_)] cs ss L st h) : G Thinning_init d mc ms cs ss 0 L st h Q := G.run (by decide +kernel) hw
/-! blocks of Welding_init -/
theorem ml_Welding_init : (g_m Welding_init).2.2.1 = 1 := rfl
theorem rt_Welding_init : (g_m Welding_init).2.2.2.1 = none := rfl
theorem B_Welding_init_0 {d mc ms cs ss : Nat} {L : List (Option Value)} {st : List Value} {h : g_H} {Q : g_Po} (hw : g_wp Welding_init d mc ms Q 12 [(0, 1, 0, 0, 0, 0, .aload_n 0), (1, 3, 9999, 0, 1106, 0, .invokespecial 3), (4, 1, 0, 0, 0, 0, .aload_n 0), (5, 2, 0, 0, 0, 20, .bipush 20), (7, 2, 0, 20, 1056, 0, .newarray .int), (9, 3, 5, 0, 1107, 12, .putfield 11)] cs ss L st h) : G Welding_init d mc ms cs ss 0 L st h Q := G.run (by decide +kernel) hw
theorem B_Welding_init_12 {d mc ms cs ss : Nat} {L : List (Option Value)} {st : List Value} {h : g_H} {Q : g_Po} (hw : g_wp Welding_init d mc ms Q 20 [(12, 1, 0, 0, 0, 0, .aload_n 0), (13, 2, 0, 0, 0, 20, .bipush 20), (15, 2, 0, 20, 1056, 0, .newarray .int), (17, 3, 5, 1, 1108, 12, .putfield 15)] cs ss L st h) : G Welding_init d mc ms cs ss 12 L st h Q := G.run (by decide +kernel) hw
theorem B_Welding_init_20 {d mc ms cs ss : Nat} {L : List (Option Value)} {st : List Value} {h : g_H} {Q : g_Po} (hw : g_wp Welding_init d mc ms Q 28 [(20, 1, 0, 0, 0, 0, .aload_n 0), (21, 2, 0, 0, 0, 20, .bipush 20), (23, 2, 0, 20, 1056, 0, .newarray .int), (25, 3, 5, 2, 1109, 12, .putfield 18)] cs ss L st h) : G Welding_init d mc ms cs ss 20 L st h Q := G.run (by decide +kernel) hw
theorem B_Welding_init_28 {d mc ms cs ss : Nat} {L : List (Option Value)} {st : List Value} {h : g_H} {Q : g_Po} (hw : g_wp Welding_init d mc ms Q 36 [(28, 1, 0, 0, 0, 0, .aload_n 0), (29, 2, 0, 0, 0, 20, .bipush 20), (31, 2, 0, 20, 1056, 0, .newarray .int), (33, 3, 5, 3, 1110, 12, .putfield 21)] cs ss L st h) : G Welding_init d mc ms cs ss 28 L st h Q := G.run (by decide +kernel) hw
theorem B_Welding_init_36 {d mc ms cs ss : Nat} {L : List (Option Value)} {st : List Value} {h : g_H} {Q : g_Po} (hw : g_wp Welding_init d mc ms Q 37 [(36, 1, 0, 0, 0, 0, .return_)] cs ss L st h) : G Welding_init d mc ms cs ss 36 L st h Q := G.run (by decide +kernel) hw
/-! blocks of Text_init -/
theorem ml_Text_init : (g_m Text_init).2.2.1 = 1 := rfl
theorem rt_Text_init : (g_m Text_init).2.2.2.1 = none := rfl
theorem B_Text_init_0 {d mc ms cs ss : Nat} {L : List (Option Value)} {st : List Value} {h : g_H} {Q : g_Po} (hw : g_wp Text_init d mc ms Q 20 [(0, 1, 0, 0, 0, 0, .aload_n 0), (1, 3, 9999, 0, 1128, 0, .invokespecial 3), (4, 1, 0, 0, 0, 0, .aload_n 0), (5, 2, 0, 0, 0, 80, .bipush 80), (7, 2, 1, 80, 1142, 0, .newarray .char), (9, 3, 3, 0, 1131, 12, .putfield 9), (12, 1, 0, 0, 0, 0, .aload_n 0), (13, 3, 2, 3, 1129, 0, .new 15), (16, 1, 0, 0, 0, 0, .dup), (17, 3, 33, 0, 1130, 0, .invokespecial 17)] cs ss L st h) : G Text_init d mc ms cs ss 0 L st h Q := G.run (by decide +kernel) hw
theorem B_Text_init_20 {d mc ms cs ss : Nat} {L : List (Option Value)} {st : List Value} {h : g_H} {Q : g_Po} (hw : g_wp Text_init d mc ms Q 24 [(20, 3, 3, 1, 1132, 12, .putfield 18), (23, 1, 0, 0, 0, 0, .return_)] cs ss L st h) : G Text_init d mc ms cs ss 20 L st h Q := G.run (by decide +kernel) hw
set_option maxHeartbeats 8000000 in
theorem Pens_dig_c {d P : Nat} (hd : 9 ≤ d) {W : Wd} {h : g_H} {Q : g_Po} (w : wfW W) (hp : pens h P W) (hQ : Q (some (.long (J (sp_dig W).1))) h) : Call Pens_digest d 0 0 [.ref P] h Q := by
  have d1 : 1 ≤ d := by omega
  obtain ⟨⟨Ss, pn⟩, Hs, T, l⟩ := W
  obtain ⟨σ, hp⟩ := hp
  obtain ⟨p0, p1, p2, p3, p4, p5, p6, p7⟩ := hp.g
  have hlen : Ss.length ≤ 10 := p1.len
  have hpn := w.g.2.1.1
  have wD := w.g.1
  unfold sp_dig at hQ
  dsimp only at hQ
  have second : ∀ (m i : Nat) (x4 x5 x6 : Option Value), i + m = Ss.length → G Pens_digest d 0 0 0 0 143 [some (.ref P), some (.long (J (dg3 Ss i (dg2 Ss Ss.length (31 * (31 * 866 + pn.1.length) + Ss.length))))), none, some (.int (I (i : Int))), x4, x5, x6] [] h Q := by
    intro m
    induction m with
    | zero =>
      intro i x4 x5 x6 hi
      obtain rfl : i = Ss.length := by omega
      refine B_Pens_digest_143 ?_
      simp only [wp_cons, wp_nil, List.getElem?_cons_zero, List.getElem?_cons_succ, List.set_cons_zero, List.set_cons_succ, s_iload_n3, ldI_s, s_aload_n0, ldA_r, ldA_n, s_getfield, pR_s, ob_s, gt_s, s_if_icmp_ge, p2_s, true_and, and_true, Nat.le_refl, true_implies, forall_const, not_false_eq_true, false_implies, not_true_eq_false, reduceCtorEq, tl_s, tl_n, rf_s, List.cons_append, List.nil_append, true_or, or_true, p0, p1.c]
      refine b_le (by omega) (by omega) (fun cc => ?_) (fun cc => absurd cc (by omega))
      refine B_Pens_digest_229 ?_
      simp only [wp_cons, wp_nil, List.getElem?_cons_zero, List.getElem?_cons_succ, List.set_cons_zero, List.set_cons_succ, s_lload_n1, ldL_s, s_lreturn, l1_s, rt_Pens_digest, true_and, and_true, Nat.le_refl, true_implies, forall_const, not_false_eq_true, false_implies, not_true_eq_false, reduceCtorEq, tl_s, tl_n, rf_s, List.cons_append, List.nil_append, true_or, or_true, p0, p1.c]
      exact hQ
    | succ m ih =>
      intro i x4 x5 x6 hi
      have w1 := wD.2 i (by omega)
      have inner : ∀ (n k : Nat) (x6 : Option Value), k + n = Ss.length - (i + 1) → G Pens_digest d 0 0 0 0 169 [some (.ref P), some (.long (J (hsh (fun k => cx2 (sg Ss i) (sg Ss (i + 1 + k))) k (dg3 Ss i (dg2 Ss Ss.length (31 * (31 * 866 + pn.1.length) + Ss.length)))))), none, some (.int (I (i : Int))), some (.ref (σ i)), some (.int (I ((i + 1 + k : Nat) : Int))), x6] [] h Q := by
        intro n
        induction n with
        | zero =>
          intro k x6 hk
          obtain rfl : k = Ss.length - (i + 1) := by omega
          refine B_Pens_digest_169 ?_
          simp only [wp_cons, wp_nil, List.getElem?_cons_zero, List.getElem?_cons_succ, List.set_cons_zero, List.set_cons_succ, s_iload, ldI_s, s_aload_n0, ldA_r, ldA_n, s_getfield, pR_s, ob_s, gt_s, s_if_icmp_ge, p2_s, true_and, and_true, Nat.le_refl, true_implies, forall_const, not_false_eq_true, false_implies, not_true_eq_false, reduceCtorEq, tl_s, tl_n, rf_s, List.cons_append, List.nil_append, true_or, or_true, p0, p1.c]
          refine b_le (by omega) (by omega) (fun cc => ?_) (fun cc => absurd cc (by omega))
          refine B_Pens_digest_223 ?_
          simp only [wp_cons, wp_nil, List.getElem?_cons_zero, List.getElem?_cons_succ, List.set_cons_zero, List.set_cons_succ, s_iinc, ldI_s, s1_0, s1_s, kx_i, kx_r, kx_n, kx_l, kx_0, I_add, s_goto, true_and, and_true, Nat.le_refl, true_implies, forall_const, not_false_eq_true, false_implies, not_true_eq_false, reduceCtorEq, tl_s, tl_n, rf_s, List.cons_append, List.nil_append, true_or, or_true, p0, p1.c]
          exact ih (i + 1) _ _ _ (by omega)
        | succ n ihn =>
          intro k x6 hk
          have w2 := wD.2 (i + 1 + k) (by omega)
          have b := cx2_bd w1.2.1 w2.2.1
          refine B_Pens_digest_169 ?_
          simp only [wp_cons, wp_nil, List.getElem?_cons_zero, List.getElem?_cons_succ, List.set_cons_zero, List.set_cons_succ, s_iload, ldI_s, s_aload_n0, ldA_r, ldA_n, s_getfield, pR_s, ob_s, gt_s, s_if_icmp_ge, p2_s, true_and, and_true, Nat.le_refl, true_implies, forall_const, not_false_eq_true, false_implies, not_true_eq_false, reduceCtorEq, tl_s, tl_n, rf_s, List.cons_append, List.nil_append, true_or, or_true, p0, p1.c, I_J (show i32 (cx2 (sg Ss i) (sg Ss (i + 1 + k))) by omega)]
          refine b_le (by omega) (by omega) (fun cc => absurd cc (by omega)) (fun cc => ?_)
          refine B_Pens_digest_181 ?_
          simp only [wp_cons, wp_nil, List.getElem?_cons_zero, List.getElem?_cons_succ, List.set_cons_zero, List.set_cons_succ, s_aload_n0, ldA_r, ldA_n, s_getfield, pR_s, ob_s, gt_s, s_iload, ldI_s, s_invokevirtual, rc_s, List.drop_succ_cons, List.drop_zero, List.take_succ_cons, List.take_zero, List.reverse_cons, List.reverse_nil, List.nil_append, List.cons_append, List.length_cons, List.length_nil, d1, Int.reduceToNat, Nat.reduceAdd, Nat.reduceLeDiff, true_and, and_true, Nat.le_refl, true_implies, forall_const, not_false_eq_true, false_implies, not_true_eq_false, reduceCtorEq, tl_s, tl_n, rf_s, true_or, or_true, p0, p1.c, I_J (show i32 (cx2 (sg Ss i) (sg Ss (i + 1 + k))) by omega)]
          refine Drawing_find_c p1 (by omega) ?_
          refine B_Pens_digest_190 ?_
          simp only [wp_cons, wp_nil, List.getElem?_cons_zero, List.getElem?_cons_succ, List.set_cons_zero, List.set_cons_succ, s_astore, pA_r, pA_n, s1_0, s1_s, kx_i, kx_r, kx_n, kx_l, kx_0, s_aload, ldA_r, ldA_n, s_ifnull, true_and, and_true, Nat.le_refl, true_implies, forall_const, not_false_eq_true, false_implies, not_true_eq_false, reduceCtorEq, tl_s, tl_n, rf_s, List.cons_append, List.nil_append, true_or, or_true, p0, p1.c, I_J (show i32 (cx2 (sg Ss i) (sg Ss (i + 1 + k))) by omega)]
          refine B_Pens_digest_197 ?_
          simp only [wp_cons, wp_nil, List.getElem?_cons_zero, List.getElem?_cons_succ, List.set_cons_zero, List.set_cons_succ, s_aload, ldA_r, ldA_n, s_ifnull, pA_r, pA_n, true_and, and_true, Nat.le_refl, true_implies, forall_const, not_false_eq_true, false_implies, not_true_eq_false, reduceCtorEq, tl_s, tl_n, rf_s, List.cons_append, List.nil_append, true_or, or_true, p0, p1.c, I_J (show i32 (cx2 (sg Ss i) (sg Ss (i + 1 + k))) by omega)]
          refine B_Pens_digest_202 ?_
          simp only [wp_cons, wp_nil, List.getElem?_cons_zero, List.getElem?_cons_succ, List.set_cons_zero, List.set_cons_succ, s_ldc2_w, s_lload_n1, ldL_s, s_lmul, l2_s, J_mul, s_aload, ldA_r, ldA_n, s_invokestatic, rc_s, ob_s, List.drop_succ_cons, List.drop_zero, List.take_succ_cons, List.take_zero, List.reverse_cons, List.reverse_nil, List.nil_append, List.cons_append, List.length_cons, List.length_nil, Nat.reduceEqDiff, reduceIte, p1_s, p2_s, l1_s, d1, Int.reduceToNat, Nat.reduceAdd, Nat.reduceLeDiff, true_and, and_true, Nat.le_refl, true_implies, forall_const, not_false_eq_true, false_implies, not_true_eq_false, reduceCtorEq, tl_s, tl_n, rf_s, true_or, or_true, p0, p1.c, I_J (show i32 (cx2 (sg Ss i) (sg Ss (i + 1 + k))) by omega)]
          refine Measures_cx2_c (by omega) (p1.st (by omega)) (by have := w1.1; omega) w1.2.2.1 (p1.st (by omega)) (by have := w2.1; omega) w2.2.2.1 ?_
          refine B_Pens_digest_214 ?_
          simp only [wp_cons, wp_nil, List.getElem?_cons_zero, List.getElem?_cons_succ, List.set_cons_zero, List.set_cons_succ, s_i2l, p1_s, s_ladd, l2_s, J_add, s_lstore_n1, l1_s, s2_0, s2_s, kx_i, kx_r, kx_n, kx_l, kx_0, true_and, and_true, Nat.le_refl, true_implies, forall_const, not_false_eq_true, false_implies, not_true_eq_false, reduceCtorEq, tl_s, tl_n, rf_s, List.cons_append, List.nil_append, true_or, or_true, p0, p1.c, I_J (show i32 (cx2 (sg Ss i) (sg Ss (i + 1 + k))) by omega)]
          refine B_Pens_digest_217 ?_
          simp only [wp_cons, wp_nil, List.getElem?_cons_zero, List.getElem?_cons_succ, List.set_cons_zero, List.set_cons_succ, s_iinc, ldI_s, s1_0, s1_s, kx_i, kx_r, kx_n, kx_l, kx_0, I_add, s_goto, true_and, and_true, Nat.le_refl, true_implies, forall_const, not_false_eq_true, false_implies, not_true_eq_false, reduceCtorEq, tl_s, tl_n, rf_s, List.cons_append, List.nil_append, true_or, or_true, p0, p1.c, I_J (show i32 (cx2 (sg Ss i) (sg Ss (i + 1 + k))) by omega)]
          exact ihn (k + 1) _ (by omega)
      refine B_Pens_digest_143 ?_
      simp only [wp_cons, wp_nil, List.getElem?_cons_zero, List.getElem?_cons_succ, List.set_cons_zero, List.set_cons_succ, s_iload_n3, ldI_s, s_aload_n0, ldA_r, ldA_n, s_getfield, pR_s, ob_s, gt_s, s_if_icmp_ge, p2_s, true_and, and_true, Nat.le_refl, true_implies, forall_const, not_false_eq_true, false_implies, not_true_eq_false, reduceCtorEq, tl_s, tl_n, rf_s, List.cons_append, List.nil_append, true_or, or_true, p0, p1.c]
      refine b_le (by omega) (by omega) (fun cc => absurd cc (by omega)) (fun cc => ?_)
      refine B_Pens_digest_154 ?_
      simp only [wp_cons, wp_nil, List.getElem?_cons_zero, List.getElem?_cons_succ, List.set_cons_zero, List.set_cons_succ, s_aload_n0, ldA_r, ldA_n, s_getfield, pR_s, ob_s, gt_s, s_iload_n3, ldI_s, s_invokevirtual, rc_s, List.drop_succ_cons, List.drop_zero, List.take_succ_cons, List.take_zero, List.reverse_cons, List.reverse_nil, List.nil_append, List.cons_append, List.length_cons, List.length_nil, d1, Int.reduceToNat, Nat.reduceAdd, Nat.reduceLeDiff, true_and, and_true, Nat.le_refl, true_implies, forall_const, not_false_eq_true, false_implies, not_true_eq_false, reduceCtorEq, tl_s, tl_n, rf_s, true_or, or_true, p0, p1.c]
      refine Drawing_find_c p1 (by omega) ?_
      refine B_Pens_digest_162 ?_
      simp only [wp_cons, wp_nil, List.getElem?_cons_zero, List.getElem?_cons_succ, List.set_cons_zero, List.set_cons_succ, s_astore, pA_r, pA_n, s1_0, s1_s, kx_i, kx_r, kx_n, kx_l, kx_0, s_iload_n3, ldI_s, s_iconst, s_iadd, p2_s, I_add, s_istore, p1_s, true_and, and_true, Nat.le_refl, true_implies, forall_const, not_false_eq_true, false_implies, not_true_eq_false, reduceCtorEq, tl_s, tl_n, rf_s, List.cons_append, List.nil_append, true_or, or_true, p0, p1.c]
      exact inner (Ss.length - (i + 1)) 0 _ (by omega)
  have first : ∀ (m i : Nat) (x4 x5 x6 : Option Value), i + m = Ss.length → G Pens_digest d 0 0 0 0 39 [some (.ref P), some (.long (J (dg2 Ss i (31 * (31 * 866 + pn.1.length) + Ss.length)))), none, some (.int (I (i : Int))), x4, x5, x6] [] h Q := by
    intro m
    induction m with
    | zero =>
      intro i x4 x5 x6 hi
      obtain rfl : i = Ss.length := by omega
      refine B_Pens_digest_39 ?_
      simp only [wp_cons, wp_nil, List.getElem?_cons_zero, List.getElem?_cons_succ, List.set_cons_zero, List.set_cons_succ, s_iload_n3, ldI_s, s_aload_n0, ldA_r, ldA_n, s_getfield, pR_s, ob_s, gt_s, s_if_icmp_ge, p2_s, true_and, and_true, Nat.le_refl, true_implies, forall_const, not_false_eq_true, false_implies, not_true_eq_false, reduceCtorEq, tl_s, tl_n, rf_s, List.cons_append, List.nil_append, true_or, or_true, p0, p1.c]
      refine b_le (by omega) (by omega) (fun cc => ?_) (fun cc => absurd cc (by omega))
      refine B_Pens_digest_141 ?_
      simp only [wp_cons, wp_nil, List.getElem?_cons_zero, List.getElem?_cons_succ, List.set_cons_zero, List.set_cons_succ, s_iconst, s_istore_n3, p1_s, s1_0, s1_s, kx_i, kx_r, kx_n, kx_l, kx_0, true_and, and_true, Nat.le_refl, true_implies, forall_const, not_false_eq_true, false_implies, not_true_eq_false, reduceCtorEq, tl_s, tl_n, rf_s, List.cons_append, List.nil_append, true_or, or_true, p0, p1.c]
      exact second Ss.length 0 _ _ _ (by omega)
    | succ m ih =>
      intro i x4 x5 x6 hi
      have w1 := wD.2 i (by omega)
      have hn1 := w1.1
      have hn2 := w1.2.1
      have st := p1.st (show i < Ss.length by omega)
      have in2 : ∀ (n k : Nat), k + n = (sg Ss i).1.length → G Pens_digest d 0 0 0 0 99 [some (.ref P), some (.long (J (hsh (pg (sg Ss i).1) k (hsh (figS (sg Ss i)) 10 (dg2 Ss i (31 * (31 * 866 + pn.1.length) + Ss.length)))))), none, some (.int (I (i : Int))), some (.ref (σ i)), some (.int (I (k : Int))), x6] [] h Q := by
        intro n
        induction n with
        | zero =>
          intro k hk
          obtain rfl : k = (sg Ss i).1.length := by omega
          refine B_Pens_digest_99 ?_
          simp only [wp_cons, wp_nil, List.getElem?_cons_zero, List.getElem?_cons_succ, List.set_cons_zero, List.set_cons_succ, s_aload, ldA_r, ldA_n, s_ifnull, pA_r, pA_n, true_and, and_true, Nat.le_refl, true_implies, forall_const, not_false_eq_true, false_implies, not_true_eq_false, reduceCtorEq, tl_s, tl_n, rf_s, List.cons_append, List.nil_append, true_or, or_true, p0, p1.c, st.c]
          refine B_Pens_digest_104 ?_
          simp only [wp_cons, wp_nil, List.getElem?_cons_zero, List.getElem?_cons_succ, List.set_cons_zero, List.set_cons_succ, s_iload, ldI_s, s_aload, ldA_r, ldA_n, s_getfield, pR_s, ob_s, gt_s, s_if_icmp_ge, p2_s, true_and, and_true, Nat.le_refl, true_implies, forall_const, not_false_eq_true, false_implies, not_true_eq_false, reduceCtorEq, tl_s, tl_n, rf_s, List.cons_append, List.nil_append, true_or, or_true, p0, p1.c, st.c]
          refine b_le (by omega) (by omega) (fun cc => ?_) (fun cc => absurd cc (by omega))
          refine B_Pens_digest_135 ?_
          simp only [wp_cons, wp_nil, List.getElem?_cons_zero, List.getElem?_cons_succ, List.set_cons_zero, List.set_cons_succ, s_iinc, ldI_s, s1_0, s1_s, kx_i, kx_r, kx_n, kx_l, kx_0, I_add, s_goto, true_and, and_true, Nat.le_refl, true_implies, forall_const, not_false_eq_true, false_implies, not_true_eq_false, reduceCtorEq, tl_s, tl_n, rf_s, List.cons_append, List.nil_append, true_or, or_true, p0, p1.c, st.c]
          exact ih (i + 1) _ _ _ (by omega)
        | succ n ihn =>
          intro k hk
          have b := w1.2.2.1 k (by omega)
          refine B_Pens_digest_99 ?_
          simp only [wp_cons, wp_nil, List.getElem?_cons_zero, List.getElem?_cons_succ, List.set_cons_zero, List.set_cons_succ, s_aload, ldA_r, ldA_n, s_ifnull, pA_r, pA_n, true_and, and_true, Nat.le_refl, true_implies, forall_const, not_false_eq_true, false_implies, not_true_eq_false, reduceCtorEq, tl_s, tl_n, rf_s, List.cons_append, List.nil_append, true_or, or_true, p0, p1.c, st.c, I_J (show i32 (pg (sg Ss i).1 k) by omega)]
          refine B_Pens_digest_104 ?_
          simp only [wp_cons, wp_nil, List.getElem?_cons_zero, List.getElem?_cons_succ, List.set_cons_zero, List.set_cons_succ, s_iload, ldI_s, s_aload, ldA_r, ldA_n, s_getfield, pR_s, ob_s, gt_s, s_if_icmp_ge, p2_s, true_and, and_true, Nat.le_refl, true_implies, forall_const, not_false_eq_true, false_implies, not_true_eq_false, reduceCtorEq, tl_s, tl_n, rf_s, List.cons_append, List.nil_append, true_or, or_true, p0, p1.c, st.c, I_J (show i32 (pg (sg Ss i).1 k) by omega)]
          refine b_le (by omega) (by omega) (fun cc => absurd cc (by omega)) (fun cc => ?_)
          refine B_Pens_digest_114 ?_
          simp only [wp_cons, wp_nil, List.getElem?_cons_zero, List.getElem?_cons_succ, List.set_cons_zero, List.set_cons_succ, s_ldc2_w, s_lload_n1, ldL_s, s_lmul, l2_s, J_mul, s_aload, ldA_r, ldA_n, s_iload, ldI_s, s_invokevirtual, rc_s, ob_s, List.drop_succ_cons, List.drop_zero, List.take_succ_cons, List.take_zero, List.reverse_cons, List.reverse_nil, List.nil_append, List.cons_append, List.length_cons, List.length_nil, d1, Int.reduceToNat, Nat.reduceAdd, Nat.reduceLeDiff, true_and, and_true, Nat.le_refl, true_implies, forall_const, not_false_eq_true, false_implies, not_true_eq_false, reduceCtorEq, tl_s, tl_n, rf_s, true_or, or_true, p0, p1.c, st.c, I_J (show i32 (pg (sg Ss i).1 k) by omega)]
          refine Stroke_at_c st (by omega) ?_
          refine B_Pens_digest_126 ?_
          simp only [wp_cons, wp_nil, List.getElem?_cons_zero, List.getElem?_cons_succ, List.set_cons_zero, List.set_cons_succ, s_i2l, p1_s, s_ladd, l2_s, J_add, s_lstore_n1, l1_s, s2_0, s2_s, kx_i, kx_r, kx_n, kx_l, kx_0, s_iinc, ldI_s, s1_0, s1_s, I_add, s_goto, true_and, and_true, Nat.le_refl, true_implies, forall_const, not_false_eq_true, false_implies, not_true_eq_false, reduceCtorEq, tl_s, tl_n, rf_s, List.cons_append, List.nil_append, true_or, or_true, p0, p1.c, st.c, I_J (show i32 (pg (sg Ss i).1 k) by omega)]
          exact ihn (k + 1) (by omega)
      have in1 : ∀ (n k : Nat), k + n = 10 → G Pens_digest d 0 0 0 0 63 [some (.ref P), some (.long (J (hsh (figS (sg Ss i)) k (dg2 Ss i (31 * (31 * 866 + pn.1.length) + Ss.length))))), none, some (.int (I (i : Int))), some (.ref (σ i)), some (.int (I (k : Int))), x6] [] h Q := by
        intro n
        induction n with
        | zero =>
          intro k hk
          obtain rfl : k = 10 := by omega
          refine B_Pens_digest_63 ?_
          simp only [wp_cons, wp_nil, List.getElem?_cons_zero, List.getElem?_cons_succ, List.set_cons_zero, List.set_cons_succ, s_aload, ldA_r, ldA_n, s_ifnull, pA_r, pA_n, true_and, and_true, Nat.le_refl, true_implies, forall_const, not_false_eq_true, false_implies, not_true_eq_false, reduceCtorEq, tl_s, tl_n, rf_s, List.cons_append, List.nil_append, true_or, or_true, p0, p1.c, st.c]
          refine B_Pens_digest_68 ?_
          simp only [wp_cons, wp_nil, List.getElem?_cons_zero, List.getElem?_cons_succ, List.set_cons_zero, List.set_cons_succ, s_iload, ldI_s, s_bipush, s_if_icmp_gt, p2_s, true_and, and_true, Nat.le_refl, true_implies, forall_const, not_false_eq_true, false_implies, not_true_eq_false, reduceCtorEq, tl_s, tl_n, rf_s, List.cons_append, List.nil_append, true_or, or_true, p0, p1.c, st.c]
          refine b_lt (by omega) (by omega) (fun cc => ?_) (fun cc => absurd cc (by omega))
          refine B_Pens_digest_96 ?_
          simp only [wp_cons, wp_nil, List.getElem?_cons_zero, List.getElem?_cons_succ, List.set_cons_zero, List.set_cons_succ, s_iconst, s_istore, p1_s, s1_0, s1_s, kx_i, kx_r, kx_n, kx_l, kx_0, true_and, and_true, Nat.le_refl, true_implies, forall_const, not_false_eq_true, false_implies, not_true_eq_false, reduceCtorEq, tl_s, tl_n, rf_s, List.cons_append, List.nil_append, true_or, or_true, p0, p1.c, st.c]
          exact in2 (sg Ss i).1.length 0 (by omega)
        | succ n ihn =>
          intro k hk
          refine B_Pens_digest_63 ?_
          simp only [wp_cons, wp_nil, List.getElem?_cons_zero, List.getElem?_cons_succ, List.set_cons_zero, List.set_cons_succ, s_aload, ldA_r, ldA_n, s_ifnull, pA_r, pA_n, true_and, and_true, Nat.le_refl, true_implies, forall_const, not_false_eq_true, false_implies, not_true_eq_false, reduceCtorEq, tl_s, tl_n, rf_s, List.cons_append, List.nil_append, true_or, or_true, p0, p1.c, st.c, I_J (figS_bd w1 k)]
          refine B_Pens_digest_68 ?_
          simp only [wp_cons, wp_nil, List.getElem?_cons_zero, List.getElem?_cons_succ, List.set_cons_zero, List.set_cons_succ, s_iload, ldI_s, s_bipush, s_if_icmp_gt, p2_s, true_and, and_true, Nat.le_refl, true_implies, forall_const, not_false_eq_true, false_implies, not_true_eq_false, reduceCtorEq, tl_s, tl_n, rf_s, List.cons_append, List.nil_append, true_or, or_true, p0, p1.c, st.c, I_J (figS_bd w1 k)]
          refine b_lt (by omega) (by omega) (fun cc => absurd cc (by omega)) (fun cc => ?_)
          refine B_Pens_digest_75 ?_
          simp only [wp_cons, wp_nil, List.getElem?_cons_zero, List.getElem?_cons_succ, List.set_cons_zero, List.set_cons_succ, s_ldc2_w, s_lload_n1, ldL_s, s_lmul, l2_s, J_mul, s_aload, ldA_r, ldA_n, s_iload, ldI_s, s_invokestatic, rc_s, ob_s, List.drop_succ_cons, List.drop_zero, List.take_succ_cons, List.take_zero, List.reverse_cons, List.reverse_nil, List.nil_append, List.cons_append, List.length_cons, List.length_nil, Nat.reduceEqDiff, reduceIte, p1_s, p2_s, l1_s, d1, Int.reduceToNat, Nat.reduceAdd, Nat.reduceLeDiff, true_and, and_true, Nat.le_refl, true_implies, forall_const, not_false_eq_true, false_implies, not_true_eq_false, reduceCtorEq, tl_s, tl_n, rf_s, true_or, or_true, p0, p1.c, st.c, I_J (figS_bd w1 k)]
          refine Measures_figure_c (by omega) st (by omega) w1.2.2.1 (by omega) ?_
          refine B_Pens_digest_87 ?_
          simp only [wp_cons, wp_nil, List.getElem?_cons_zero, List.getElem?_cons_succ, List.set_cons_zero, List.set_cons_succ, s_i2l, p1_s, s_ladd, l2_s, J_add, s_lstore_n1, l1_s, s2_0, s2_s, kx_i, kx_r, kx_n, kx_l, kx_0, s_iinc, ldI_s, s1_0, s1_s, I_add, s_goto, true_and, and_true, Nat.le_refl, true_implies, forall_const, not_false_eq_true, false_implies, not_true_eq_false, reduceCtorEq, tl_s, tl_n, rf_s, List.cons_append, List.nil_append, true_or, or_true, p0, p1.c, st.c, I_J (figS_bd w1 k)]
          exact ihn (k + 1) (by omega)
      refine B_Pens_digest_39 ?_
      simp only [wp_cons, wp_nil, List.getElem?_cons_zero, List.getElem?_cons_succ, List.set_cons_zero, List.set_cons_succ, s_iload_n3, ldI_s, s_aload_n0, ldA_r, ldA_n, s_getfield, pR_s, ob_s, gt_s, s_if_icmp_ge, p2_s, true_and, and_true, Nat.le_refl, true_implies, forall_const, not_false_eq_true, false_implies, not_true_eq_false, reduceCtorEq, tl_s, tl_n, rf_s, List.cons_append, List.nil_append, true_or, or_true, p0, p1.c]
      refine b_le (by omega) (by omega) (fun cc => absurd cc (by omega)) (fun cc => ?_)
      refine B_Pens_digest_50 ?_
      simp only [wp_cons, wp_nil, List.getElem?_cons_zero, List.getElem?_cons_succ, List.set_cons_zero, List.set_cons_succ, s_aload_n0, ldA_r, ldA_n, s_getfield, pR_s, ob_s, gt_s, s_iload_n3, ldI_s, s_invokevirtual, rc_s, List.drop_succ_cons, List.drop_zero, List.take_succ_cons, List.take_zero, List.reverse_cons, List.reverse_nil, List.nil_append, List.cons_append, List.length_cons, List.length_nil, d1, Int.reduceToNat, Nat.reduceAdd, Nat.reduceLeDiff, true_and, and_true, Nat.le_refl, true_implies, forall_const, not_false_eq_true, false_implies, not_true_eq_false, reduceCtorEq, tl_s, tl_n, rf_s, true_or, or_true, p0, p1.c]
      refine Drawing_find_c p1 (by omega) ?_
      refine B_Pens_digest_58 ?_
      simp only [wp_cons, wp_nil, List.getElem?_cons_zero, List.getElem?_cons_succ, List.set_cons_zero, List.set_cons_succ, s_astore, pA_r, pA_n, s1_0, s1_s, kx_i, kx_r, kx_n, kx_l, kx_0, s_iconst, s_istore, p1_s, true_and, and_true, Nat.le_refl, true_implies, forall_const, not_false_eq_true, false_implies, not_true_eq_false, reduceCtorEq, tl_s, tl_n, rf_s, List.cons_append, List.nil_append, true_or, or_true, p0, p1.c]
      exact in1 10 0 (by omega)
  refine Call.intro (by rfl) (Nat.le_of_ble_eq_true rfl) ?_
  refine G.eqL (L := [some (.ref _), none, none, none, none, none, none]) rfl ?_
  refine B_Pens_digest_0 ?_
  simp only [wp_cons, wp_nil, List.getElem?_cons_zero, List.getElem?_cons_succ, List.set_cons_zero, List.set_cons_succ, s_ldc2_w, s_lstore_n1, l1_s, s2_0, s2_s, kx_i, kx_r, kx_n, kx_l, kx_0, s_lload_n1, ldL_s, s_lmul, l2_s, J_mul, s_aload_n0, ldA_r, ldA_n, s_getfield, pR_s, ob_s, gt_s, s_i2l, p1_s, s_ladd, J_add, s_iconst, s_istore_n3, s1_0, s1_s, true_and, and_true, Nat.le_refl, true_implies, forall_const, not_false_eq_true, false_implies, not_true_eq_false, reduceCtorEq, tl_s, tl_n, rf_s, List.cons_append, List.nil_append, true_or, or_true, p0, p1.c, p1.pn.c, I_J (x := (Ss.length : Int)) (by omega), I_J (x := (pn.1.length : Int)) (by omega)]
  exact first Ss.length 0 _ _ _ (by omega)
theorem rep_bd {S : Stk} (h : S.1.length ≤ 30) : rep S = -6 ∨ (0 ≤ rep S ∧ rep S ≤ 30) := by
  have hrr := rpt_rng S.1 (S.1.length - 1) 1
  unfold rep
  split
  · split <;> omega
  · omega
theorem frb_bd (R : List Stk) : ∀ m i, (frb R m i).1 = -6 ∨ 0 ≤ (frb R m i).1 := by
  intro m
  induction m with
  | zero => intro i; exact Or.inl rfl
  | succ m ih =>
    intro i
    unfold frb
    split
    · exact Or.inr (by show (0 : Int) ≤ i; omega)
    · exact ih (i + 1)
set_option maxHeartbeats 8000000 in
theorem Pens_read_c {d P : Nat} (hd : 9 ≤ d) {W : Wd} {h : g_H} {Q : g_Po} (w : wfW W) (hp : pens h P W) (hQ : PQ P h Q (sp_read W)) : Call Pens_read d 0 0 [.ref P] h Q := by
  have d1 : 1 ≤ d := by omega
  obtain ⟨⟨Ss, pn⟩, Hs, T, l⟩ := W
  obtain ⟨σ, hp⟩ := hp
  obtain ⟨p0, p1, p2, p3, p4, p5, p6, p7⟩ := hp.g
  have hlen : Ss.length ≤ 10 := p1.len
  have wT := w.g.2.2.2.2
  have hpn := w.g.2.1.1
  have hTl := p7.len
  have heb := errT_bd T
  unfold sp_read flW at hQ
  dsimp only at hQ
  refine Call.intro (by rfl) (Nat.le_of_ble_eq_true rfl) ?_
  refine G.eqL (L := [some (.ref _), none, none, none]) rfl ?_
  refine B_Pens_read_0 ?_
  simp only [wp_cons, wp_nil, List.getElem?_cons_zero, List.getElem?_cons_succ, List.set_cons_zero, List.set_cons_succ, s_aload_n0, ldA_r, ldA_n, s_getfield, pR_s, ob_s, gt_s, s_invokevirtual, rc_s, List.drop_succ_cons, List.drop_zero, List.take_succ_cons, List.take_zero, List.reverse_cons, List.reverse_nil, List.nil_append, List.cons_append, List.length_cons, List.length_nil, d1, Int.reduceToNat, Nat.reduceAdd, Nat.reduceLeDiff, true_and, and_true, Nat.le_refl, true_implies, forall_const, not_false_eq_true, false_implies, not_true_eq_false, reduceCtorEq, tl_s, tl_n, rf_s, true_or, or_true, p0, p1.c, p7.o, p1.pn.c]
  refine Txt_err_c (by omega) wT p7 ?_
  by_cases c1 : errT T = -6
  · rw [if_neg (fun q => q c1)] at hQ
    by_cases c2 : 0 < pn.1.length
    · rw [if_pos c2] at hQ
      refine B_Pens_read_7 ?_
      simp only [wp_cons, wp_nil, List.getElem?_cons_zero, List.getElem?_cons_succ, List.set_cons_zero, List.set_cons_succ, s_bipush, s_if_icmp_eq, p2_s, true_and, and_true, Nat.le_refl, true_implies, forall_const, not_false_eq_true, false_implies, not_true_eq_false, reduceCtorEq, tl_s, tl_n, rf_s, List.cons_append, List.nil_append, true_or, or_true, p0, p1.c, p7.o, p1.pn.c]
      refine b_eq (by omega) (by omega) (fun cc => ?_) (fun cc => absurd cc (by omega))
      refine B_Pens_read_23 ?_
      simp only [wp_cons, wp_nil, List.getElem?_cons_zero, List.getElem?_cons_succ, List.set_cons_zero, List.set_cons_succ, s_aload_n0, ldA_r, ldA_n, s_getfield, pR_s, ob_s, gt_s, s_ifCond_le, p1_s, true_and, and_true, Nat.le_refl, true_implies, forall_const, not_false_eq_true, false_implies, not_true_eq_false, reduceCtorEq, tl_s, tl_n, rf_s, List.cons_append, List.nil_append, true_or, or_true, p0, p1.c, p7.o, p1.pn.c]
      refine b_le (by omega) (by omega) (fun cc => absurd cc (by omega)) (fun cc => ?_)
      refine B_Pens_read_36 ?_
      simp only [wp_cons, wp_nil, List.getElem?_cons_zero, List.getElem?_cons_succ, List.set_cons_zero, List.set_cons_succ, s_aload_n0, ldA_r, ldA_n, s_bipush, s_invokevirtual, rc_s, ob_s, List.drop_succ_cons, List.drop_zero, List.take_succ_cons, List.take_zero, List.reverse_cons, List.reverse_nil, List.nil_append, List.cons_append, List.length_cons, List.length_nil, d1, Int.reduceToNat, Nat.reduceAdd, Nat.reduceLeDiff, true_and, and_true, Nat.le_refl, true_implies, forall_const, not_false_eq_true, false_implies, not_true_eq_false, reduceCtorEq, tl_s, tl_n, rf_s, true_or, or_true, p0, p1.c, p7.o, p1.pn.c]
      refine Pens_fail_c hp (fun h1 c1' b1 => ?_)
      refine B_Pens_read_46 ?_
      simp only [wp_cons, wp_nil, List.getElem?_cons_zero, List.getElem?_cons_succ, List.set_cons_zero, List.set_cons_succ, s_ireturn, p1_s, rI_i, rI_z, rI_c, z_01, z_11, rt_Pens_read, true_and, and_true, Nat.le_refl, true_implies, forall_const, not_false_eq_true, false_implies, not_true_eq_false, reduceCtorEq, tl_s, tl_n, rf_s, List.cons_append, List.nil_append, true_or, or_true, p0, p1.c, p7.o, p1.pn.c]
      exact hQ h1 (c1'.wd (by omega) (by omega)) ⟨σ, b1⟩
    rw [if_neg c2] at hQ
    obtain ⟨r1, r2, r3⟩ := prsT_ok wT c1
    obtain ⟨R, hR⟩ : ∃ R, prsT T = R := ⟨_, rfl⟩
    rw [hR] at hQ r1 r2 r3
    refine B_Pens_read_7 ?_
    simp only [wp_cons, wp_nil, List.getElem?_cons_zero, List.getElem?_cons_succ, List.set_cons_zero, List.set_cons_succ, s_bipush, s_if_icmp_eq, p2_s, true_and, and_true, Nat.le_refl, true_implies, forall_const, not_false_eq_true, false_implies, not_true_eq_false, reduceCtorEq, tl_s, tl_n, rf_s, List.cons_append, List.nil_append, true_or, or_true, p0, p1.c, p7.o, p1.pn.c]
    refine b_eq (by omega) (by omega) (fun cc => ?_) (fun cc => absurd cc (by omega))
    refine B_Pens_read_23 ?_
    simp only [wp_cons, wp_nil, List.getElem?_cons_zero, List.getElem?_cons_succ, List.set_cons_zero, List.set_cons_succ, s_aload_n0, ldA_r, ldA_n, s_getfield, pR_s, ob_s, gt_s, s_ifCond_le, p1_s, true_and, and_true, Nat.le_refl, true_implies, forall_const, not_false_eq_true, false_implies, not_true_eq_false, reduceCtorEq, tl_s, tl_n, rf_s, List.cons_append, List.nil_append, true_or, or_true, p0, p1.c, p7.o, p1.pn.c]
    refine b_le (by omega) (by omega) (fun cc => ?_) (fun cc => absurd cc (by omega))
    refine B_Pens_read_47 ?_
    simp only [wp_cons, wp_nil, List.getElem?_cons_zero, List.getElem?_cons_succ, List.set_cons_zero, List.set_cons_succ, s_aload_n0, ldA_r, ldA_n, s_getfield, pR_s, ob_s, gt_s, s_invokevirtual, rc_s, List.drop_succ_cons, List.drop_zero, List.take_succ_cons, List.take_zero, List.reverse_cons, List.reverse_nil, List.nil_append, List.cons_append, List.length_cons, List.length_nil, d1, Int.reduceToNat, Nat.reduceAdd, Nat.reduceLeDiff, true_and, and_true, Nat.le_refl, true_implies, forall_const, not_false_eq_true, false_implies, not_true_eq_false, reduceCtorEq, tl_s, tl_n, rf_s, true_or, or_true, p0, p1.c, p7.o, p1.pn.c]
    refine Txt_parse_c (by omega) wT c1 (by omega) p7 p2 (fun h1 c1' t1 x1 b1 => ?_)
    obtain ⟨pn1, σ1, b1⟩ := b1
    rw [hR] at b1
    have c1w : chg P (P + 208) h h1 := ⟨c1'.1, fun b hb => c1'.2 b (by omega) (by omega)⟩
    have hp1 : pns h1 P σ ((Ss, pn), Hs, T, l) := ⟨(c1'.2 P (by omega) (by omega)).trans p0, chg.pt (P := fun g => drw g (P + 1) σ Ss pn) (s := P + 1) (k := 24) (fun lo hi h h' c ho q => q.kp c (by omega)) c1'.1 (fun b q1 q2 => c1'.2 b (by omega) (by omega)) p1, x1, chg.pt (P := fun g => stX g (P + 49)) (s := P + 49) (k := 2) (fun lo hi h h' c ho q => q.kp c (by omega)) c1'.1 (fun b q1 q2 => c1'.2 b (by omega) (by omega)) p3, chg.pt (P := fun g => hisL g (P + 51) Hs) (s := P + 51) (k := 146) (fun lo hi h h' c ho q => q.kp c (by omega)) c1'.1 (fun b q1 q2 => c1'.2 b (by omega) (by omega)) p4, chg.pt (P := fun g => thnX g (P + 197)) (s := P + 197) (k := 2) (fun lo hi h h' c ho q => q.kp c (by omega)) c1'.1 (fun b q1 q2 => c1'.2 b (by omega) (by omega)) p5, chg.pt (P := fun g => wlX g (P + 199)) (s := P + 199) (k := 5) (fun lo hi h h' c ho q => q.kp c (by omega)) c1'.1 (fun b q1 q2 => c1'.2 b (by omega) (by omega)) p6, t1⟩
    obtain ⟨p0, p1, p2, p3, p4, p5, p6, p7⟩ := hp1.g
    have loop2 : ∀ (h2 : g_H), chg P (P + 208) h h2 → pns h2 P σ ((Ss, pn), hadd Hs (Ss, pn), T, l) → drw h2 (P + 25) σ1 R pn1 → (frb R R.length 0).1 = -6 → Ss.length + R.length ≤ 10 → ∀ (m i : Nat) (h3 : g_H) (x2 x3 : Option Value), i + m = R.length → chg (P + 1) (P + 25) h2 h3 → drw h3 (P + 1) σ (Ss ++ R.take i) pn → G Pens_read d 0 0 0 0 159 [some (.ref P), some (.int (I (i : Int))), x2, x3] [] h3 Q := by
      intro h2 cw hp2 bt hfr hle m
      induction m with
      | zero =>
        intro i h3 x2 x3 hi hc hd3
        obtain rfl : i = R.length := by omega
        have hp3 := hp2.dr (s' := (Ss ++ R.take R.length, pn)) hc hd3
        have bt3 := bt.kp hc (by omega)
        obtain ⟨p0, p1, p2, p3, p4, p5, p6, p7⟩ := hp3.g
        have k1 : ∀ h v, (List.set h (P + 204) v : g_H)[P]? = h[P]? := hs_ne (by omega)
        have k2 : ∀ h v, (List.set h (P + 204) v : g_H)[P + 25]? = h[P + 25]? := hs_ne (by omega)
        have c4 : ∀ v, chg (P + 204) (P + 208) h3 (h3.set (P + 204) v) := fun v => chg.set _ (by omega)
        have hp4 := hp3.tx (c4 _) p7.clr
        rw [List.take_length] at hp4
        rw [if_neg (fun q => q hfr), if_neg (by omega)] at hQ
        refine B_Pens_read_159 ?_
        simp only [wp_cons, wp_nil, List.getElem?_cons_zero, List.getElem?_cons_succ, List.set_cons_zero, List.set_cons_succ, s_iload_n1, ldI_s, s_aload_n0, ldA_r, ldA_n, s_getfield, pR_s, ob_s, gt_s, s_if_icmp_ge, p2_s, true_and, and_true, Nat.le_refl, true_implies, forall_const, not_false_eq_true, false_implies, not_true_eq_false, reduceCtorEq, tl_s, tl_n, rf_s, List.cons_append, List.nil_append, true_or, or_true, p0, bt3.c, p7.o, k1, k2, Nat.reduceLT, Nat.reduceAdd]
        refine b_le (by omega) (by omega) (fun cc => ?_) (fun cc => absurd cc (by omega))
        refine B_Pens_read_197 ?_
        simp only [wp_cons, wp_nil, List.getElem?_cons_zero, List.getElem?_cons_succ, List.set_cons_zero, List.set_cons_succ, s_aload_n0, ldA_r, ldA_n, s_getfield, pR_s, ob_s, gt_s, s_iconst, s_putfield, pv_i, pv_z, pv_r, pv_f, z_01, z_11, List.length_cons, List.length_nil, s_ireturn, p1_s, rI_i, rI_z, rI_c, rt_Pens_read, true_and, and_true, Nat.le_refl, true_implies, forall_const, not_false_eq_true, false_implies, not_true_eq_false, reduceCtorEq, tl_s, tl_n, rf_s, List.cons_append, List.nil_append, true_or, or_true, p0, bt3.c, p7.o, k1, k2, Nat.reduceLT, Nat.reduceAdd]
        exact hQ _ ((cw.tr (hc.wd (by omega) (by omega))).tr ((c4 _).wd (by omega) (by omega))) ⟨σ, hp4⟩
      | succ m ih =>
        intro i h3 x2 x3 hi hc hd3
        have hp3 := hp2.dr (s' := (Ss ++ R.take i, pn)) hc hd3
        have bt3 := bt.kp hc (by omega)
        obtain ⟨p0, p1, p2, p3, p4, p5, p6, p7⟩ := hp3.g
        have sl := bt3.sl (i := i) (by omega)
        refine B_Pens_read_159 ?_
        simp only [wp_cons, wp_nil, List.getElem?_cons_zero, List.getElem?_cons_succ, List.set_cons_zero, List.set_cons_succ, s_iload_n1, ldI_s, s_aload_n0, ldA_r, ldA_n, s_getfield, pR_s, ob_s, gt_s, s_if_icmp_ge, p2_s, true_and, and_true, Nat.le_refl, true_implies, forall_const, not_false_eq_true, false_implies, not_true_eq_false, reduceCtorEq, tl_s, tl_n, rf_s, List.cons_append, List.nil_append, true_or, or_true, p0, bt3.c, p1.c]
        refine b_le (by omega) (by omega) (fun cc => absurd cc (by omega)) (fun cc => ?_)
        refine B_Pens_read_170 ?_
        simp only [wp_cons, wp_nil, List.getElem?_cons_zero, List.getElem?_cons_succ, List.set_cons_zero, List.set_cons_succ, s_aload_n0, ldA_r, ldA_n, s_getfield, pR_s, ob_s, gt_s, s_iload_n1, ldI_s, s_invokevirtual, rc_s, List.drop_succ_cons, List.drop_zero, List.take_succ_cons, List.take_zero, List.reverse_cons, List.reverse_nil, List.nil_append, List.cons_append, List.length_cons, List.length_nil, d1, Int.reduceToNat, Nat.reduceAdd, Nat.reduceLeDiff, true_and, and_true, Nat.le_refl, true_implies, forall_const, not_false_eq_true, false_implies, not_true_eq_false, reduceCtorEq, tl_s, tl_n, rf_s, true_or, or_true, p0, bt3.c, p1.c]
        refine Drawing_find_c bt3 (by omega) ?_
        refine B_Pens_read_178 ?_
        simp only [wp_cons, wp_nil, List.getElem?_cons_zero, List.getElem?_cons_succ, List.set_cons_zero, List.set_cons_succ, s_astore_n2, pA_r, pA_n, s1_0, s1_s, kx_i, kx_r, kx_n, kx_l, kx_0, s_aload_n2, ldA_r, ldA_n, s_ifnull, true_and, and_true, Nat.le_refl, true_implies, forall_const, not_false_eq_true, false_implies, not_true_eq_false, reduceCtorEq, tl_s, tl_n, rf_s, List.cons_append, List.nil_append, true_or, or_true, p0, bt3.c, p1.c]
        refine B_Pens_read_183 ?_
        simp only [wp_cons, wp_nil, List.getElem?_cons_zero, List.getElem?_cons_succ, List.set_cons_zero, List.set_cons_succ, s_aload_n0, ldA_r, ldA_n, s_getfield, pR_s, ob_s, gt_s, s_aload_n2, s_invokevirtual, rc_s, List.drop_succ_cons, List.drop_zero, List.take_succ_cons, List.take_zero, List.reverse_cons, List.reverse_nil, List.nil_append, List.cons_append, List.length_cons, List.length_nil, d1, Int.reduceToNat, Nat.reduceAdd, Nat.reduceLeDiff, true_and, and_true, Nat.le_refl, true_implies, forall_const, not_false_eq_true, false_implies, not_true_eq_false, reduceCtorEq, tl_s, tl_n, rf_s, true_or, or_true, p0, bt3.c, p1.c]
        refine Drawing_append_c (by omega) hd3 (by rw [List.length_append, List.length_take]; omega) (bt3.st (by omega)) (by omega) (fun h4 c4 b4 => ?_)
        refine B_Pens_read_191 ?_
        simp only [wp_cons, wp_nil, List.getElem?_cons_zero, List.getElem?_cons_succ, List.set_cons_zero, List.set_cons_succ, s_iinc, ldI_s, s1_0, s1_s, kx_i, kx_r, kx_n, kx_l, kx_0, I_add, s_goto, true_and, and_true, Nat.le_refl, true_implies, forall_const, not_false_eq_true, false_implies, not_true_eq_false, reduceCtorEq, tl_s, tl_n, rf_s, List.cons_append, List.nil_append, true_or, or_true, p0, bt3.c, p1.c]
        refine ih (i + 1) h4 _ _ (by omega) (hc.tr (c4.wd (by omega) (by omega))) ?_
        have e : R.take (i + 1) = R.take i ++ [sg R i] := by
          rw [List.take_succ_eq_append_getElem (by omega)]
          congr 1
          unfold sg
          rw [List.getD_eq_getElem?_getD, List.getElem?_eq_getElem (by omega)]
          rfl
        rw [e, ← List.append_assoc]
        exact b4
    have loop1 : ∀ (m i : Nat) (x2 x3 : Option Value), i + m = R.length → frb R m i = frb R R.length 0 → G Pens_read d 0 0 0 0 60 [some (.ref P), some (.int (I (i : Int))), x2, x3] [] h1 Q := by
      intro m
      induction m with
      | zero =>
        intro i x2 x3 hi hf
        obtain rfl : i = R.length := by omega
        have hfr : (frb R R.length 0).1 = -6 := by rw [← hf]; rfl
        by_cases c4 : 10 < Ss.length + R.length
        · rw [if_neg (fun q => q hfr), if_pos c4] at hQ
          refine B_Pens_read_60 ?_
          simp only [wp_cons, wp_nil, List.getElem?_cons_zero, List.getElem?_cons_succ, List.set_cons_zero, List.set_cons_succ, s_iload_n1, ldI_s, s_aload_n0, ldA_r, ldA_n, s_getfield, pR_s, ob_s, gt_s, s_if_icmp_ge, p2_s, true_and, and_true, Nat.le_refl, true_implies, forall_const, not_false_eq_true, false_implies, not_true_eq_false, reduceCtorEq, tl_s, tl_n, rf_s, List.cons_append, List.nil_append, true_or, or_true, p0, p1.c, b1.c]
          refine b_le (by omega) (by omega) (fun cc => ?_) (fun cc => absurd cc (by omega))
          refine B_Pens_read_115 ?_
          simp only [wp_cons, wp_nil, List.getElem?_cons_zero, List.getElem?_cons_succ, List.set_cons_zero, List.set_cons_succ, s_aload_n0, ldA_r, ldA_n, s_getfield, pR_s, ob_s, gt_s, s_iadd, p2_s, I_add, s_bipush, s_if_icmp_le, true_and, and_true, Nat.le_refl, true_implies, forall_const, not_false_eq_true, false_implies, not_true_eq_false, reduceCtorEq, tl_s, tl_n, rf_s, List.cons_append, List.nil_append, true_or, or_true, p0, p1.c, b1.c]
          refine b_le (by omega) (by omega) (fun cc => absurd cc (by omega)) (fun cc => ?_)
          refine B_Pens_read_135 ?_
          simp only [wp_cons, wp_nil, List.getElem?_cons_zero, List.getElem?_cons_succ, List.set_cons_zero, List.set_cons_succ, s_aload_n0, ldA_r, ldA_n, s_bipush, s_invokevirtual, rc_s, ob_s, List.drop_succ_cons, List.drop_zero, List.take_succ_cons, List.take_zero, List.reverse_cons, List.reverse_nil, List.nil_append, List.cons_append, List.length_cons, List.length_nil, d1, Int.reduceToNat, Nat.reduceAdd, Nat.reduceLeDiff, true_and, and_true, Nat.le_refl, true_implies, forall_const, not_false_eq_true, false_implies, not_true_eq_false, reduceCtorEq, tl_s, tl_n, rf_s, true_or, or_true, p0, p1.c, b1.c]
          refine Pens_fail_c hp1 (fun h2 c2' b2 => ?_)
          refine B_Pens_read_145 ?_
          simp only [wp_cons, wp_nil, List.getElem?_cons_zero, List.getElem?_cons_succ, List.set_cons_zero, List.set_cons_succ, s_ireturn, p1_s, rI_i, rI_z, rI_c, z_01, z_11, rt_Pens_read, true_and, and_true, Nat.le_refl, true_implies, forall_const, not_false_eq_true, false_implies, not_true_eq_false, reduceCtorEq, tl_s, tl_n, rf_s, List.cons_append, List.nil_append, true_or, or_true, p0, p1.c, b1.c]
          exact hQ h2 (c1w.tr (c2'.wd (by omega) (by omega))) ⟨σ, b2⟩
        · refine B_Pens_read_60 ?_
          simp only [wp_cons, wp_nil, List.getElem?_cons_zero, List.getElem?_cons_succ, List.set_cons_zero, List.set_cons_succ, s_iload_n1, ldI_s, s_aload_n0, ldA_r, ldA_n, s_getfield, pR_s, ob_s, gt_s, s_if_icmp_ge, p2_s, true_and, and_true, Nat.le_refl, true_implies, forall_const, not_false_eq_true, false_implies, not_true_eq_false, reduceCtorEq, tl_s, tl_n, rf_s, List.cons_append, List.nil_append, true_or, or_true, p0, p1.c, b1.c, p4.c]
          refine b_le (by omega) (by omega) (fun cc => ?_) (fun cc => absurd cc (by omega))
          refine B_Pens_read_115 ?_
          simp only [wp_cons, wp_nil, List.getElem?_cons_zero, List.getElem?_cons_succ, List.set_cons_zero, List.set_cons_succ, s_aload_n0, ldA_r, ldA_n, s_getfield, pR_s, ob_s, gt_s, s_iadd, p2_s, I_add, s_bipush, s_if_icmp_le, true_and, and_true, Nat.le_refl, true_implies, forall_const, not_false_eq_true, false_implies, not_true_eq_false, reduceCtorEq, tl_s, tl_n, rf_s, List.cons_append, List.nil_append, true_or, or_true, p0, p1.c, b1.c, p4.c]
          refine b_le (by omega) (by omega) (fun cc => ?_) (fun cc => absurd cc (by omega))
          refine B_Pens_read_146 ?_
          simp only [wp_cons, wp_nil, List.getElem?_cons_zero, List.getElem?_cons_succ, List.set_cons_zero, List.set_cons_succ, s_aload_n0, ldA_r, ldA_n, s_getfield, pR_s, ob_s, gt_s, s_invokevirtual, rc_s, List.drop_succ_cons, List.drop_zero, List.take_succ_cons, List.take_zero, List.reverse_cons, List.reverse_nil, List.nil_append, List.cons_append, List.length_cons, List.length_nil, d1, Int.reduceToNat, Nat.reduceAdd, Nat.reduceLeDiff, true_and, and_true, Nat.le_refl, true_implies, forall_const, not_false_eq_true, false_implies, not_true_eq_false, reduceCtorEq, tl_s, tl_n, rf_s, true_or, or_true, p0, p1.c, b1.c, p4.c]
          refine History_save_c (by omega) p4 ⟨σ, p1⟩ (by omega) (fun h2 c2' b2 => ?_)
          have hp2 := hp1.sv c2' b2
          refine B_Pens_read_157 ?_
          simp only [wp_cons, wp_nil, List.getElem?_cons_zero, List.getElem?_cons_succ, List.set_cons_zero, List.set_cons_succ, s_iconst, s_istore_n1, p1_s, s1_0, s1_s, kx_i, kx_r, kx_n, kx_l, kx_0, true_and, and_true, Nat.le_refl, true_implies, forall_const, not_false_eq_true, false_implies, not_true_eq_false, reduceCtorEq, tl_s, tl_n, rf_s, List.cons_append, List.nil_append, true_or, or_true, p0, p1.c, b1.c, p4.c]
          refine loop2 h2 (c1w.tr (c2'.wd (by omega) (by omega))) hp2 (b1.kp c2' (by omega)) hfr (by omega) R.length 0 h2 _ _ (by omega) chg.rf ?_
          rw [List.take_zero, List.append_nil]
          exact hp2.g.2.1
      | succ m ih =>
        intro i x2 x3 hi hf
        have st := b1.st (show i < R.length by omega)
        have rr := r1 i (by omega)
        have hb := rep_bd rr.2.1
        rw [show frb R (m + 1) i = if rep (sg R i) ≠ -6 then ((i : Int), rep (sg R i)) else frb R m (i + 1) from rfl] at hf
        refine B_Pens_read_60 ?_
        simp only [wp_cons, wp_nil, List.getElem?_cons_zero, List.getElem?_cons_succ, List.set_cons_zero, List.set_cons_succ, s_iload_n1, ldI_s, s_aload_n0, ldA_r, ldA_n, s_getfield, pR_s, ob_s, gt_s, s_if_icmp_ge, p2_s, true_and, and_true, Nat.le_refl, true_implies, forall_const, not_false_eq_true, false_implies, not_true_eq_false, reduceCtorEq, tl_s, tl_n, rf_s, List.cons_append, List.nil_append, true_or, or_true, p0, b1.c, st.c]
        refine b_le (by omega) (by omega) (fun cc => absurd cc (by omega)) (fun cc => ?_)
        refine B_Pens_read_71 ?_
        simp only [wp_cons, wp_nil, List.getElem?_cons_zero, List.getElem?_cons_succ, List.set_cons_zero, List.set_cons_succ, s_aload_n0, ldA_r, ldA_n, s_getfield, pR_s, ob_s, gt_s, s_iload_n1, ldI_s, s_invokevirtual, rc_s, List.drop_succ_cons, List.drop_zero, List.take_succ_cons, List.take_zero, List.reverse_cons, List.reverse_nil, List.nil_append, List.cons_append, List.length_cons, List.length_nil, d1, Int.reduceToNat, Nat.reduceAdd, Nat.reduceLeDiff, true_and, and_true, Nat.le_refl, true_implies, forall_const, not_false_eq_true, false_implies, not_true_eq_false, reduceCtorEq, tl_s, tl_n, rf_s, true_or, or_true, p0, b1.c, st.c]
        refine Drawing_find_c b1 (by omega) ?_
        refine B_Pens_read_79 ?_
        simp only [wp_cons, wp_nil, List.getElem?_cons_zero, List.getElem?_cons_succ, List.set_cons_zero, List.set_cons_succ, s_astore_n2, pA_r, pA_n, s1_0, s1_s, kx_i, kx_r, kx_n, kx_l, kx_0, s_aload_n2, ldA_r, ldA_n, s_ifnonnull, true_and, and_true, Nat.le_refl, true_implies, forall_const, not_false_eq_true, false_implies, not_true_eq_false, reduceCtorEq, tl_s, tl_n, rf_s, List.cons_append, List.nil_append, true_or, or_true, p0, b1.c, st.c]
        refine B_Pens_read_89 ?_
        simp only [wp_cons, wp_nil, List.getElem?_cons_zero, List.getElem?_cons_succ, List.set_cons_zero, List.set_cons_succ, s_aload_n2, ldA_r, ldA_n, s_invokevirtual, rc_s, ob_s, List.drop_succ_cons, List.drop_zero, List.take_succ_cons, List.take_zero, List.reverse_cons, List.reverse_nil, List.nil_append, List.cons_append, List.length_cons, List.length_nil, d1, Int.reduceToNat, Nat.reduceAdd, Nat.reduceLeDiff, true_and, and_true, Nat.le_refl, true_implies, forall_const, not_false_eq_true, false_implies, not_true_eq_false, reduceCtorEq, tl_s, tl_n, rf_s, true_or, or_true, p0, b1.c, st.c]
        refine Stroke_rep_c (by omega) st (by have := rr.1; omega) rr.2.2.1 ?_
        by_cases c5 : rep (sg R i) = -6
        · rw [if_neg (fun q => q c5)] at hf
          refine B_Pens_read_93 ?_
          simp only [wp_cons, wp_nil, List.getElem?_cons_zero, List.getElem?_cons_succ, List.set_cons_zero, List.set_cons_succ, s_istore_n3, p1_s, s1_0, s1_s, kx_i, kx_r, kx_n, kx_l, kx_0, s_iload_n3, ldI_s, s_bipush, s_if_icmp_eq, p2_s, true_and, and_true, Nat.le_refl, true_implies, forall_const, not_false_eq_true, false_implies, not_true_eq_false, reduceCtorEq, tl_s, tl_n, rf_s, List.cons_append, List.nil_append, true_or, or_true, p0, b1.c, st.c]
          refine b_eq (by omega) (by omega) (fun cc => ?_) (fun cc => absurd cc (by omega))
          refine B_Pens_read_109 ?_
          simp only [wp_cons, wp_nil, List.getElem?_cons_zero, List.getElem?_cons_succ, List.set_cons_zero, List.set_cons_succ, s_iinc, ldI_s, s1_0, s1_s, kx_i, kx_r, kx_n, kx_l, kx_0, I_add, s_goto, true_and, and_true, Nat.le_refl, true_implies, forall_const, not_false_eq_true, false_implies, not_true_eq_false, reduceCtorEq, tl_s, tl_n, rf_s, List.cons_append, List.nil_append, true_or, or_true, p0, b1.c, st.c]
          exact ih (i + 1) _ _ (by omega) hf
        · rw [if_pos c5] at hf
          have e6 : (frb R R.length 0).1 ≠ -6 := by rw [← hf]; show (i : Int) ≠ -6; omega
          rw [if_pos e6, ← hf] at hQ
          refine B_Pens_read_93 ?_
          simp only [wp_cons, wp_nil, List.getElem?_cons_zero, List.getElem?_cons_succ, List.set_cons_zero, List.set_cons_succ, s_istore_n3, p1_s, s1_0, s1_s, kx_i, kx_r, kx_n, kx_l, kx_0, s_iload_n3, ldI_s, s_bipush, s_if_icmp_eq, p2_s, true_and, and_true, Nat.le_refl, true_implies, forall_const, not_false_eq_true, false_implies, not_true_eq_false, reduceCtorEq, tl_s, tl_n, rf_s, List.cons_append, List.nil_append, true_or, or_true, p0, b1.c, st.c]
          refine b_eq (by omega) (by omega) (fun cc => absurd cc (by omega)) (fun cc => ?_)
          refine B_Pens_read_100 ?_
          simp only [wp_cons, wp_nil, List.getElem?_cons_zero, List.getElem?_cons_succ, List.set_cons_zero, List.set_cons_succ, s_aload_n0, ldA_r, ldA_n, s_bipush, s_iload_n1, ldI_s, s_iload_n3, s_invokevirtual, rc_s, ob_s, List.drop_succ_cons, List.drop_zero, List.take_succ_cons, List.take_zero, List.reverse_cons, List.reverse_nil, List.nil_append, List.cons_append, List.length_cons, List.length_nil, d1, Int.reduceToNat, Nat.reduceAdd, Nat.reduceLeDiff, true_and, and_true, Nat.le_refl, true_implies, forall_const, not_false_eq_true, false_implies, not_true_eq_false, reduceCtorEq, tl_s, tl_n, rf_s, true_or, or_true, p0, b1.c, st.c]
          refine Pens_fail_c hp1 (fun h2 c2' b2 => ?_)
          refine B_Pens_read_108 ?_
          simp only [wp_cons, wp_nil, List.getElem?_cons_zero, List.getElem?_cons_succ, List.set_cons_zero, List.set_cons_succ, s_ireturn, p1_s, rI_i, rI_z, rI_c, z_01, z_11, rt_Pens_read, true_and, and_true, Nat.le_refl, true_implies, forall_const, not_false_eq_true, false_implies, not_true_eq_false, reduceCtorEq, tl_s, tl_n, rf_s, List.cons_append, List.nil_append, true_or, or_true, p0, b1.c, st.c]
          exact hQ h2 (c1w.tr (c2'.wd (by omega) (by omega))) ⟨σ, b2⟩
    refine B_Pens_read_58 ?_
    simp only [wp_cons, wp_nil, List.getElem?_cons_zero, List.getElem?_cons_succ, List.set_cons_zero, List.set_cons_succ, s_iconst, s_istore_n1, p1_s, s1_0, s1_s, kx_i, kx_r, kx_n, kx_l, kx_0, true_and, and_true, Nat.le_refl, true_implies, forall_const, not_false_eq_true, false_implies, not_true_eq_false, reduceCtorEq, tl_s, tl_n, rf_s, List.cons_append, List.nil_append, true_or, or_true, p0, p1.c, p7.o, p1.pn.c]
    exact loop1 R.length 0 _ _ (by omega) rfl
  · rw [if_pos c1] at hQ
    refine B_Pens_read_7 ?_
    simp only [wp_cons, wp_nil, List.getElem?_cons_zero, List.getElem?_cons_succ, List.set_cons_zero, List.set_cons_succ, s_bipush, s_if_icmp_eq, p2_s, true_and, and_true, Nat.le_refl, true_implies, forall_const, not_false_eq_true, false_implies, not_true_eq_false, reduceCtorEq, tl_s, tl_n, rf_s, List.cons_append, List.nil_append, true_or, or_true, p0, p1.c, p7.o, p1.pn.c]
    refine b_eq (by omega) (by omega) (fun cc => absurd cc (by omega)) (fun cc => ?_)
    refine B_Pens_read_12 ?_
    simp only [wp_cons, wp_nil, List.getElem?_cons_zero, List.getElem?_cons_succ, List.set_cons_zero, List.set_cons_succ, s_aload_n0, ldA_r, ldA_n, s_bipush, s_invokevirtual, rc_s, ob_s, List.drop_succ_cons, List.drop_zero, List.take_succ_cons, List.take_zero, List.reverse_cons, List.reverse_nil, List.nil_append, List.cons_append, List.length_cons, List.length_nil, d1, Int.reduceToNat, Nat.reduceAdd, Nat.reduceLeDiff, true_and, and_true, Nat.le_refl, true_implies, forall_const, not_false_eq_true, false_implies, not_true_eq_false, reduceCtorEq, tl_s, tl_n, rf_s, true_or, or_true, p0, p1.c, p7.o, p1.pn.c]
    refine Pens_fail_c hp (fun h1 c1' b1 => ?_)
    refine B_Pens_read_22 ?_
    simp only [wp_cons, wp_nil, List.getElem?_cons_zero, List.getElem?_cons_succ, List.set_cons_zero, List.set_cons_succ, s_ireturn, p1_s, rI_i, rI_z, rI_c, z_01, z_11, rt_Pens_read, true_and, and_true, Nat.le_refl, true_implies, forall_const, not_false_eq_true, false_implies, not_true_eq_false, reduceCtorEq, tl_s, tl_n, rf_s, List.cons_append, List.nil_append, true_or, or_true, p0, p1.c, p7.o, p1.pn.c]
    exact hQ h1 (c1'.wd (by omega) (by omega)) ⟨σ, b1⟩
