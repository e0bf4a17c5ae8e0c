/-! ===== welding, on the class's rows ===== -/
theorem ex_ix {i n : Nat} (h : i < n ∧ n < 2147483648) (P : Nat → Prop) : (∃ j : Nat, (j < n ∧ n < 2147483648) ∧ I (i : Int) = I (j : Int) ∧ P j) = P i := by
  apply propext
  refine ⟨fun q => ?_, fun q => ⟨i, h, rfl, q⟩⟩
  obtain ⟨j, h1, h2, h3⟩ := q
  have := (I_eq (x := (i : Int)) (y := (j : Int)) (by omega) (by omega)).mp h2
  have e : i = j := by omega
  rw [e]; exact h3
theorem ex_ie {x : Int} {i n : Nat} (e : x = i) (h : i < n ∧ n < 2147483648) (P : Nat → Prop) : (∃ j : Nat, (j < n ∧ n < 2147483648) ∧ I x = I (j : Int) ∧ P j) = P i := by
  rw [e]; exact ex_ix h P
theorem hs_ne {a b : Nat} (hab : ¬ a = b) (h : g_H) (v : g_C) : (h.set a v)[b]? = h[b]? := h_ne v hab
theorem ex_iy {i n : Nat} (h : i < n ∧ n < 2147483648) (P : Nat → Prop) : (∃ j : Nat, j < n ∧ I (i : Int) = I (j : Int) ∧ P j) = P i := by
  rw [← ex_ix h P]
  apply propext
  exact ⟨fun ⟨j, h1, h2⟩ => ⟨j, ⟨h1, h.2⟩, h2⟩, fun ⟨j, h1, h2⟩ => ⟨j, h1.1, h2⟩⟩
def wl (h : g_H) (a : Nat) (X Y B Z : Nat → Int) (n : Nat) : Prop := h[a]? = some (.inr (.inr (5, [.ref (a + 1), .ref (a + 2), .ref (a + 3), .ref (a + 4), .int (I (n : Int))]))) ∧ h[a + 1]? = some (.inl (0, 20, fun i => I (X i))) ∧ h[a + 2]? = some (.inl (0, 20, fun i => I (Y i))) ∧ h[a + 3]? = some (.inl (0, 20, fun i => I (B i))) ∧ h[a + 4]? = some (.inl (0, 20, fun i => I (Z i)))
def wlX (h : g_H) (a : Nat) : Prop := ∃ X Y B Z n, wl h a X Y B Z n
theorem wl.kp {h h' : g_H} {a lo hi n : Nat} {X Y B Z : Nat → Int} (q : wl h a X Y B Z n) (c : chg lo hi h h') (ho : a + 5 ≤ lo ∨ hi ≤ a) : wl h' a X Y B Z n := ⟨(c.at (by omega)).trans q.1, (c.at (by omega)).trans q.2.1, (c.at (by omega)).trans q.2.2.1, (c.at (by omega)).trans q.2.2.2.1, (c.at (by omega)).trans q.2.2.2.2⟩
theorem wlX.kp {h h' : g_H} {a lo hi : Nat} (q : wlX h a) (c : chg lo hi h h') (ho : a + 5 ≤ lo ∨ hi ≤ a) : wlX h' a := by
  obtain ⟨X, Y, B, Z, n, q⟩ := q
  exact ⟨X, Y, B, Z, n, q.kp c ho⟩
def oc (Ss : List Stk) (i : Nat) : Nat := match i with
  | 0 => 0
  | i + 1 => oc Ss i + (if (sg Ss i).2 = true then 0 else 1)
def ke (Ss : List Stk) (e : Nat) : Nat := 2 * oc Ss (e / 2) + e % 2
theorem oc_le (Ss : List Stk) : ∀ i, oc Ss i ≤ i := by
  intro i
  induction i with
  | zero => exact Nat.le_refl _
  | succ i ih => unfold oc; split <;> omega
theorem oc_mono (Ss : List Stk) {i : Nat} : ∀ j, i ≤ j → oc Ss i ≤ oc Ss j := by
  intro j
  induction j with
  | zero => intro h; rw [show i = 0 by omega]; exact Nat.le_refl _
  | succ j ih =>
    intro h
    by_cases c : i = j + 1
    · rw [c]; exact Nat.le_refl _
    · have := ih (by omega)
      have e : oc Ss (j + 1) = oc Ss j + (if (sg Ss j).2 = true then 0 else 1) := rfl
      omega
theorem oc_op {Ss : List Stk} {i : Nat} (h : (sg Ss i).2 = false) : oc Ss (i + 1) = oc Ss i + 1 := by
  have e : oc Ss (i + 1) = oc Ss i + (if (sg Ss i).2 = true then 0 else 1) := rfl
  rw [e, if_neg (by rw [h]; decide)]
theorem oc_cl {Ss : List Stk} {i : Nat} (h : (sg Ss i).2 = true) : oc Ss (i + 1) = oc Ss i := by
  have e : oc Ss (i + 1) = oc Ss i + (if (sg Ss i).2 = true then 0 else 1) := rfl
  rw [e, if_pos h]; rfl
theorem oc_lt {Ss : List Stk} {i j : Nat} (h : (sg Ss i).2 = false) (hij : i < j) : oc Ss i < oc Ss j := by
  have h1 := oc_mono Ss (i := i + 1) j hij
  have h2 := oc_op h
  omega
theorem oc_sur (Ss : List Stk) : ∀ n k, k < oc Ss n → ∃ i, i < n ∧ (sg Ss i).2 = false ∧ oc Ss i = k := by
  intro n
  induction n with
  | zero => intro k h; exact absurd h (Nat.not_lt_zero _)
  | succ n ih =>
    intro k h
    cases z : (sg Ss n).2 with
    | true =>
      rw [oc_cl z] at h
      obtain ⟨i, h1, h2⟩ := ih k h
      exact ⟨i, by omega, h2⟩
    | false =>
      rw [oc_op z] at h
      by_cases c : k < oc Ss n
      · obtain ⟨i, h1, h2⟩ := ih k c
        exact ⟨i, by omega, h2⟩
      · exact ⟨n, by omega, z, by omega⟩
theorem oc_cg {Ss Ts : List Stk} (h : ∀ i, (sg Ts i).2 = (sg Ss i).2) : ∀ i, oc Ts i = oc Ss i := by
  intro i
  induction i with
  | zero => rfl
  | succ i ih => unfold oc; rw [ih, h i]
theorem ke_lt {Ss : List Stk} {e : Nat} (h : eo Ss e) : ke Ss e < 2 * oc Ss Ss.length := by
  have := h.1
  have := oc_lt h.2 (show e / 2 < Ss.length by omega)
  unfold ke
  omega
theorem ke_lti {Ss : List Stk} {e f : Nat} (h : eo Ss e) (h' : eo Ss f) : ke Ss e < ke Ss f ↔ e < f := by
  unfold ke
  rcases Nat.lt_trichotomy (e / 2) (f / 2) with c | c | c
  · have := oc_lt h.2 c; omega
  · rw [c]; omega
  · have := oc_lt h'.2 c; omega
theorem ke_hf {Ss : List Stk} {e f : Nat} (h : eo Ss e) (h' : eo Ss f) : ke Ss e / 2 = ke Ss f / 2 ↔ e / 2 = f / 2 := by
  have e1 : ke Ss e / 2 = oc Ss (e / 2) := by unfold ke; omega
  have e2 : ke Ss f / 2 = oc Ss (f / 2) := by unfold ke; omega
  rw [e1, e2]
  rcases Nat.lt_trichotomy (e / 2) (f / 2) with c | c | c
  · have := oc_lt h.2 c; omega
  · rw [c]; simp
  · have := oc_lt h'.2 c; omega
theorem ke_sur {Ss : List Stk} {k : Nat} (h : k < 2 * oc Ss Ss.length) : ∃ e, eo Ss e ∧ ke Ss e = k := by
  obtain ⟨i, h1, h2, h3⟩ := oc_sur Ss Ss.length (k / 2) (by omega)
  refine ⟨2 * i + k % 2, ⟨by omega, by rw [show (2 * i + k % 2) / 2 = i by omega]; exact h2⟩, ?_⟩
  unfold ke
  rw [show (2 * i + k % 2) / 2 = i by omega, h3]
  omega
def wr (Ss : List Stk) (X Y B Z : Nat → Int) (n : Nat) : Prop := n = 2 * oc Ss Ss.length ∧ ∀ e, eo Ss e → X (ke Ss e) = ep Ss e / 1000 ∧ Y (ke Ss e) = ep Ss e % 1000 ∧ B (ke Ss e) = eb Ss e ∧ Z (ke Ss e) = (ez Ss e : Int)
def wrB (X Y B Z : Nat → Int) (n : Nat) : Prop := n ≤ 20 ∧ ∀ k, k < n → (0 ≤ X k ∧ X k ≤ 999) ∧ (0 ≤ Y k ∧ Y k ≤ 999) ∧ pt (B k) ∧ 0 ≤ Z k ∧ Z k ≤ 30
theorem wr.b {Ss : List Stk} {X Y B Z : Nat → Int} {n : Nat} (w : wfD Ss) (h : wr Ss X Y B Z n) : wrB X Y B Z n := by
  have h1 := oc_le Ss Ss.length
  have h2 := w.1
  refine ⟨by rw [h.1]; omega, fun k hk => ?_⟩
  rw [h.1] at hk
  obtain ⟨e, he, rfl⟩ := ke_sur hk
  obtain ⟨r1, r2, r3, r4⟩ := h.2 e he
  obtain ⟨a1, a2, a3, a4, a5, a6⟩ := wfD_e w he
  rw [r1, r2, r3, r4]
  omega
/-! blocks of Welding_weldEnds -/
theorem ml_Welding_weldEnds : (g_m Welding_weldEnds).2.2.1 = 4 := rfl
theorem rt_Welding_weldEnds : (g_m Welding_weldEnds).2.2.2.1 = (some .int) := rfl
theorem B_Welding_weldEnds_0 {d mc ms cs ss : Nat} {L : List (Option Value)} {st : List Value} {h : g_H} {Q : g_Po} (hw : g_wp Welding_weldEnds d mc ms Q 5 [(0, 1, 0, 0, 0, 0, .aload_n 0), (1, 1, 0, 0, 0, 0, .aload_n 1), (2, 3, 59, 5, 3021, 1, .invokevirtual 24)] cs ss L st h) : G Welding_weldEnds d mc ms cs ss 0 L st h Q := G.run (by decide +kernel) hw
theorem B_Welding_weldEnds_5 {d mc ms cs ss : Nat} {L : List (Option Value)} {st : List Value} {h : g_H} {Q : g_Po} (hw : g_wp Welding_weldEnds d mc ms Q 7 [(5, 1, 0, 0, 0, 0, .iconst 0), (6, 1, 0, 0, 0, 0, .istore_n 3)] cs ss L st h) : G Welding_weldEnds d mc ms cs ss 5 L st h Q := G.run (by decide +kernel) hw
theorem B_Welding_weldEnds_7 {d mc ms cs ss : Nat} {L : List (Option Value)} {st : List Value} {h : g_H} {Q : g_Po} (hw : g_wp Welding_weldEnds d mc ms Q 13 [(7, 1, 0, 0, 0, 0, .iload_n 3), (8, 2, 0, 0, 3035, 40000000, .ldc 28), (10, 3, 29, 0, 0, 0, .if_icmp .ge 19)] cs ss L st h) : G Welding_weldEnds d mc ms cs ss 7 L st h Q := G.run (by decide +kernel) hw
theorem B_Welding_weldEnds_13 {d mc ms cs ss : Nat} {L : List (Option Value)} {st : List Value} {h : g_H} {Q : g_Po} (hw : g_wp Welding_weldEnds d mc ms Q 20 [(13, 1, 0, 0, 0, 0, .aload_n 0), (14, 1, 0, 0, 0, 0, .iload_n 2), (15, 1, 0, 0, 0, 0, .iload_n 2), (16, 1, 0, 0, 0, 0, .imul), (17, 3, 62, 5, 3036, 1, .invokevirtual 29)] cs ss L st h) : G Welding_weldEnds d mc ms cs ss 13 L st h Q := G.run (by decide +kernel) hw
theorem B_Welding_weldEnds_20 {d mc ms cs ss : Nat} {L : List (Option Value)} {st : List Value} {h : g_H} {Q : g_Po} (hw : g_wp Welding_weldEnds d mc ms Q 23 [(20, 3, 29, 0, 0, 0, .ifCond .eq 9)] cs ss L st h) : G Welding_weldEnds d mc ms cs ss 20 L st h Q := G.run (by decide +kernel) hw
theorem B_Welding_weldEnds_23 {d mc ms cs ss : Nat} {L : List (Option Value)} {st : List Value} {h : g_H} {Q : g_Po} (hw : g_wp Welding_weldEnds d mc ms Q 29 [(23, 3, 0, 0, 0, 1, .iinc 3 1), (26, 3, 7, 0, 0, 0, .goto (-19))] cs ss L st h) : G Welding_weldEnds d mc ms cs ss 23 L st h Q := G.run (by decide +kernel) hw
theorem B_Welding_weldEnds_29 {d mc ms cs ss : Nat} {L : List (Option Value)} {st : List Value} {h : g_H} {Q : g_Po} (hw : g_wp Welding_weldEnds d mc ms Q 34 [(29, 1, 0, 0, 0, 0, .aload_n 0), (30, 1, 0, 0, 0, 0, .aload_n 1), (31, 3, 61, 5, 3053, 1, .invokevirtual 33)] cs ss L st h) : G Welding_weldEnds d mc ms cs ss 29 L st h Q := G.run (by decide +kernel) hw
theorem B_Welding_weldEnds_34 {d mc ms cs ss : Nat} {L : List (Option Value)} {st : List Value} {h : g_H} {Q : g_Po} (hw : g_wp Welding_weldEnds d mc ms Q 36 [(34, 1, 0, 0, 0, 0, .iload_n 3), (35, 1, 0, 0, 0, 0, .ireturn)] cs ss L st h) : G Welding_weldEnds d mc ms cs ss 34 L st h Q := G.run (by decide +kernel) hw
/-! blocks of Welding_takeEnds -/
theorem ml_Welding_takeEnds : (g_m Welding_takeEnds).2.2.1 = 4 := rfl
theorem rt_Welding_takeEnds : (g_m Welding_takeEnds).2.2.2.1 = none := rfl
theorem B_Welding_takeEnds_0 {d mc ms cs ss : Nat} {L : List (Option Value)} {st : List Value} {h : g_H} {Q : g_Po} (hw : g_wp Welding_takeEnds d mc ms Q 7 [(0, 1, 0, 0, 0, 0, .aload_n 0), (1, 1, 0, 0, 0, 0, .iconst 0), (2, 3, 5, 4, 1107, 0, .putfield 36), (5, 1, 0, 0, 0, 0, .iconst 0), (6, 1, 0, 0, 0, 0, .istore_n 2)] cs ss L st h) : G Welding_takeEnds d mc ms cs ss 0 L st h Q := G.run (by decide +kernel) hw
theorem B_Welding_takeEnds_7 {d mc ms cs ss : Nat} {L : List (Option Value)} {st : List Value} {h : g_H} {Q : g_Po} (hw : g_wp Welding_takeEnds d mc ms Q 15 [(7, 1, 0, 0, 0, 0, .iload_n 2), (8, 1, 0, 0, 0, 0, .aload_n 1), (9, 3, 0, 2, 1061, 0, .getfield 40), (12, 3, 77, 0, 0, 0, .if_icmp .ge 65)] cs ss L st h) : G Welding_takeEnds d mc ms cs ss 7 L st h Q := G.run (by decide +kernel) hw
theorem B_Welding_takeEnds_15 {d mc ms cs ss : Nat} {L : List (Option Value)} {st : List Value} {h : g_H} {Q : g_Po} (hw : g_wp Welding_takeEnds d mc ms Q 20 [(15, 1, 0, 0, 0, 0, .aload_n 1), (16, 1, 0, 0, 0, 0, .iload_n 2), (17, 3, 1, 0, 3025, 1, .invokevirtual 43)] cs ss L st h) : G Welding_takeEnds d mc ms cs ss 15 L st h Q := G.run (by decide +kernel) hw
theorem B_Welding_takeEnds_20 {d mc ms cs ss : Nat} {L : List (Option Value)} {st : List Value} {h : g_H} {Q : g_Po} (hw : g_wp Welding_takeEnds d mc ms Q 25 [(20, 1, 0, 0, 0, 0, .astore_n 3), (21, 1, 0, 0, 0, 0, .aload_n 3), (22, 3, 71, 0, 0, 0, .ifnull 49)] cs ss L st h) : G Welding_takeEnds d mc ms cs ss 20 L st h Q := G.run (by decide +kernel) hw
theorem B_Welding_takeEnds_25 {d mc ms cs ss : Nat} {L : List (Option Value)} {st : List Value} {h : g_H} {Q : g_Po} (hw : g_wp Welding_takeEnds d mc ms Q 32 [(25, 1, 0, 0, 0, 0, .aload_n 3), (26, 3, 2, 2, 1043, 1, .getfield 47), (29, 3, 71, 0, 0, 0, .ifCond .ne 42)] cs ss L st h) : G Welding_takeEnds d mc ms cs ss 25 L st h Q := G.run (by decide +kernel) hw
theorem B_Welding_takeEnds_32 {d mc ms cs ss : Nat} {L : List (Option Value)} {st : List Value} {h : g_H} {Q : g_Po} (hw : g_wp Welding_takeEnds d mc ms Q 37 [(32, 1, 0, 0, 0, 0, .aload_n 0), (33, 1, 0, 0, 0, 0, .aload_n 3), (34, 3, 39, 2, 3026, 0, .invokevirtual 53)] cs ss L st h) : G Welding_takeEnds d mc ms cs ss 32 L st h Q := G.run (by decide +kernel) hw
theorem B_Welding_takeEnds_37 {d mc ms cs ss : Nat} {L : List (Option Value)} {st : List Value} {h : g_H} {Q : g_Po} (hw : g_wp Welding_takeEnds d mc ms Q 42 [(37, 1, 0, 0, 0, 0, .aload_n 3), (38, 1, 0, 0, 0, 1, .iconst 1), (39, 3, 33, 2, 3027, 1, .invokevirtual 57)] cs ss L st h) : G Welding_takeEnds d mc ms cs ss 37 L st h Q := G.run (by decide +kernel) hw
theorem B_Welding_takeEnds_42 {d mc ms cs ss : Nat} {L : List (Option Value)} {st : List Value} {h : g_H} {Q : g_Po} (hw : g_wp Welding_takeEnds d mc ms Q 49 [(42, 1, 0, 0, 0, 0, .aload_n 3), (43, 3, 2, 1, 1038, 0, .getfield 61), (46, 3, 60, 5, 3028, 3, .invokevirtual 62)] cs ss L st h) : G Welding_takeEnds d mc ms cs ss 42 L st h Q := G.run (by decide +kernel) hw
theorem B_Welding_takeEnds_49 {d mc ms cs ss : Nat} {L : List (Option Value)} {st : List Value} {h : g_H} {Q : g_Po} (hw : g_wp Welding_takeEnds d mc ms Q 54 [(49, 1, 0, 0, 0, 0, .aload_n 0), (50, 1, 0, 0, 0, 0, .aload_n 3), (51, 3, 40, 2, 3034, 0, .invokevirtual 66)] cs ss L st h) : G Welding_takeEnds d mc ms cs ss 49 L st h Q := G.run (by decide +kernel) hw
theorem B_Welding_takeEnds_54 {d mc ms cs ss : Nat} {L : List (Option Value)} {st : List Value} {h : g_H} {Q : g_Po} (hw : g_wp Welding_takeEnds d mc ms Q 64 [(54, 1, 0, 0, 0, 0, .aload_n 3), (55, 1, 0, 0, 0, 0, .aload_n 3), (56, 3, 2, 1, 1038, 0, .getfield 61), (59, 1, 0, 0, 0, 2, .iconst 2), (60, 1, 0, 0, 0, 0, .isub), (61, 3, 33, 2, 3027, 1, .invokevirtual 57)] cs ss L st h) : G Welding_takeEnds d mc ms cs ss 54 L st h Q := G.run (by decide +kernel) hw
theorem B_Welding_takeEnds_64 {d mc ms cs ss : Nat} {L : List (Option Value)} {st : List Value} {h : g_H} {Q : g_Po} (hw : g_wp Welding_takeEnds d mc ms Q 71 [(64, 1, 0, 0, 0, 0, .aload_n 3), (65, 3, 2, 1, 1038, 0, .getfield 61), (68, 3, 60, 5, 3028, 3, .invokevirtual 62)] cs ss L st h) : G Welding_takeEnds d mc ms cs ss 64 L st h Q := G.run (by decide +kernel) hw
theorem B_Welding_takeEnds_71 {d mc ms cs ss : Nat} {L : List (Option Value)} {st : List Value} {h : g_H} {Q : g_Po} (hw : g_wp Welding_takeEnds d mc ms Q 77 [(71, 3, 0, 0, 0, 1, .iinc 2 1), (74, 3, 7, 0, 0, 0, .goto (-67))] cs ss L st h) : G Welding_takeEnds d mc ms cs ss 71 L st h Q := G.run (by decide +kernel) hw
theorem B_Welding_takeEnds_77 {d mc ms cs ss : Nat} {L : List (Option Value)} {st : List Value} {h : g_H} {Q : g_Po} (hw : g_wp Welding_takeEnds d mc ms Q 78 [(77, 1, 0, 0, 0, 0, .return_)] cs ss L st h) : G Welding_takeEnds d mc ms cs ss 77 L st h Q := G.run (by decide +kernel) hw
/-! blocks of Welding_addEnd -/
theorem ml_Welding_addEnd : (g_m Welding_addEnd).2.2.1 = 4 := rfl
theorem rt_Welding_addEnd : (g_m Welding_addEnd).2.2.2.1 = none := rfl
theorem B_Welding_addEnd_0 {d mc ms cs ss : Nat} {L : List (Option Value)} {st : List Value} {h : g_H} {Q : g_Po} (hw : g_wp Welding_addEnd d mc ms Q 7 [(0, 1, 0, 0, 0, 0, .aload_n 0), (1, 3, 5, 4, 1107, 0, .getfield 36), (4, 3, 72, 0, 0, 0, .ifCond .lt 68)] cs ss L st h) : G Welding_addEnd d mc ms cs ss 0 L st h Q := G.run (by decide +kernel) hw
theorem B_Welding_addEnd_7 {d mc ms cs ss : Nat} {L : List (Option Value)} {st : List Value} {h : g_H} {Q : g_Po} (hw : g_wp Welding_addEnd d mc ms Q 16 [(7, 1, 0, 0, 0, 0, .aload_n 0), (8, 3, 5, 4, 1107, 0, .getfield 36), (11, 2, 0, 0, 0, 20, .bipush 20), (13, 3, 72, 0, 0, 0, .if_icmp .ge 59)] cs ss L st h) : G Welding_addEnd d mc ms cs ss 7 L st h Q := G.run (by decide +kernel) hw
theorem B_Welding_addEnd_16 {d mc ms cs ss : Nat} {L : List (Option Value)} {st : List Value} {h : g_H} {Q : g_Po} (hw : g_wp Welding_addEnd d mc ms Q 28 [(16, 1, 0, 0, 0, 0, .aload_n 0), (17, 3, 5, 0, 1103, 2, .getfield 11), (20, 1, 0, 0, 0, 0, .aload_n 0), (21, 3, 5, 4, 1107, 0, .getfield 36), (24, 1, 0, 0, 0, 0, .iload_n 1), (25, 3, 26, 0, 3032, 1, .invokestatic 69)] cs ss L st h) : G Welding_addEnd d mc ms cs ss 16 L st h Q := G.run (by decide +kernel) hw
theorem B_Welding_addEnd_28 {d mc ms cs ss : Nat} {L : List (Option Value)} {st : List Value} {h : g_H} {Q : g_Po} (hw : g_wp Welding_addEnd d mc ms Q 41 [(28, 1, 0, 0, 0, 0, .iastore), (29, 1, 0, 0, 0, 0, .aload_n 0), (30, 3, 5, 1, 1104, 2, .getfield 15), (33, 1, 0, 0, 0, 0, .aload_n 0), (34, 3, 5, 4, 1107, 0, .getfield 36), (37, 1, 0, 0, 0, 0, .iload_n 1), (38, 3, 27, 0, 3033, 1, .invokestatic 74)] cs ss L st h) : G Welding_addEnd d mc ms cs ss 28 L st h Q := G.run (by decide +kernel) hw
theorem B_Welding_addEnd_41 {d mc ms cs ss : Nat} {L : List (Option Value)} {st : List Value} {h : g_H} {Q : g_Po} (hw : g_wp Welding_addEnd d mc ms Q 72 [(41, 1, 0, 0, 0, 0, .iastore), (42, 1, 0, 0, 0, 0, .aload_n 0), (43, 3, 5, 2, 1105, 2, .getfield 18), (46, 1, 0, 0, 0, 0, .aload_n 0), (47, 3, 5, 4, 1107, 0, .getfield 36), (50, 1, 0, 0, 0, 0, .iload_n 2), (51, 1, 0, 0, 0, 0, .iastore), (52, 1, 0, 0, 0, 0, .aload_n 0), (53, 3, 5, 3, 1106, 2, .getfield 21), (56, 1, 0, 0, 0, 0, .aload_n 0), (57, 3, 5, 4, 1107, 0, .getfield 36), (60, 1, 0, 0, 0, 0, .iload_n 3), (61, 1, 0, 0, 0, 0, .iastore), (62, 1, 0, 0, 0, 0, .aload_n 0), (63, 1, 0, 0, 0, 0, .dup), (64, 3, 5, 4, 1107, 0, .getfield 36), (67, 1, 0, 0, 0, 1, .iconst 1), (68, 1, 0, 0, 0, 0, .iadd), (69, 3, 5, 4, 1107, 0, .putfield 36)] cs ss L st h) : G Welding_addEnd d mc ms cs ss 41 L st h Q := G.run (by decide +kernel) hw
theorem B_Welding_addEnd_72 {d mc ms cs ss : Nat} {L : List (Option Value)} {st : List Value} {h : g_H} {Q : g_Po} (hw : g_wp Welding_addEnd d mc ms Q 73 [(72, 1, 0, 0, 0, 0, .return_)] cs ss L st h) : G Welding_addEnd d mc ms cs ss 72 L st h Q := G.run (by decide +kernel) hw
/-! blocks of Welding_giveEnds -/
theorem ml_Welding_giveEnds : (g_m Welding_giveEnds).2.2.1 = 5 := rfl
theorem rt_Welding_giveEnds : (g_m Welding_giveEnds).2.2.2.1 = none := rfl
theorem B_Welding_giveEnds_0 {d mc ms cs ss : Nat} {L : List (Option Value)} {st : List Value} {h : g_H} {Q : g_Po} (hw : g_wp Welding_giveEnds d mc ms Q 4 [(0, 1, 0, 0, 0, 0, .iconst 0), (1, 1, 0, 0, 0, 0, .istore_n 2), (2, 1, 0, 0, 0, 0, .iconst 0), (3, 1, 0, 0, 0, 0, .istore_n 3)] cs ss L st h) : G Welding_giveEnds d mc ms cs ss 0 L st h Q := G.run (by decide +kernel) hw
theorem B_Welding_giveEnds_4 {d mc ms cs ss : Nat} {L : List (Option Value)} {st : List Value} {h : g_H} {Q : g_Po} (hw : g_wp Welding_giveEnds d mc ms Q 12 [(4, 1, 0, 0, 0, 0, .iload_n 3), (5, 1, 0, 0, 0, 0, .aload_n 1), (6, 3, 0, 2, 1061, 0, .getfield 40), (9, 3, 101, 0, 0, 0, .if_icmp .ge 92)] cs ss L st h) : G Welding_giveEnds d mc ms cs ss 4 L st h Q := G.run (by decide +kernel) hw
theorem B_Welding_giveEnds_12 {d mc ms cs ss : Nat} {L : List (Option Value)} {st : List Value} {h : g_H} {Q : g_Po} (hw : g_wp Welding_giveEnds d mc ms Q 17 [(12, 1, 0, 0, 0, 0, .aload_n 1), (13, 1, 0, 0, 0, 0, .iload_n 3), (14, 3, 1, 0, 3025, 1, .invokevirtual 43)] cs ss L st h) : G Welding_giveEnds d mc ms cs ss 12 L st h Q := G.run (by decide +kernel) hw
theorem B_Welding_giveEnds_17 {d mc ms cs ss : Nat} {L : List (Option Value)} {st : List Value} {h : g_H} {Q : g_Po} (hw : g_wp Welding_giveEnds d mc ms Q 24 [(17, 2, 0, 0, 0, 0, .astore 4), (19, 2, 0, 0, 0, 0, .aload 4), (21, 3, 95, 0, 0, 0, .ifnull 74)] cs ss L st h) : G Welding_giveEnds d mc ms cs ss 17 L st h Q := G.run (by decide +kernel) hw
theorem B_Welding_giveEnds_24 {d mc ms cs ss : Nat} {L : List (Option Value)} {st : List Value} {h : g_H} {Q : g_Po} (hw : g_wp Welding_giveEnds d mc ms Q 32 [(24, 2, 0, 0, 0, 0, .aload 4), (26, 3, 2, 2, 1043, 1, .getfield 47), (29, 3, 95, 0, 0, 0, .ifCond .ne 66)] cs ss L st h) : G Welding_giveEnds d mc ms cs ss 24 L st h Q := G.run (by decide +kernel) hw
theorem B_Welding_giveEnds_32 {d mc ms cs ss : Nat} {L : List (Option Value)} {st : List Value} {h : g_H} {Q : g_Po} (hw : g_wp Welding_giveEnds d mc ms Q 40 [(32, 1, 0, 0, 0, 0, .iload_n 2), (33, 1, 0, 0, 0, 1, .iconst 1), (34, 1, 0, 0, 0, 0, .iadd), (35, 2, 0, 0, 0, 20, .bipush 20), (37, 3, 95, 0, 0, 0, .if_icmp .ge 58)] cs ss L st h) : G Welding_giveEnds d mc ms cs ss 32 L st h Q := G.run (by decide +kernel) hw
theorem B_Welding_giveEnds_40 {d mc ms cs ss : Nat} {L : List (Option Value)} {st : List Value} {h : g_H} {Q : g_Po} (hw : g_wp Welding_giveEnds d mc ms Q 58 [(40, 2, 0, 0, 0, 0, .aload 4), (42, 1, 0, 0, 0, 0, .iconst 0), (43, 1, 0, 0, 0, 0, .aload_n 0), (44, 3, 5, 0, 1103, 2, .getfield 11), (47, 1, 0, 0, 0, 0, .iload_n 2), (48, 1, 0, 0, 0, 0, .iaload), (49, 1, 0, 0, 0, 0, .aload_n 0), (50, 3, 5, 1, 1104, 2, .getfield 15), (53, 1, 0, 0, 0, 0, .iload_n 2), (54, 1, 0, 0, 0, 0, .iaload), (55, 3, 25, 0, 3048, 2, .invokestatic 77)] cs ss L st h) : G Welding_giveEnds d mc ms cs ss 40 L st h Q := G.run (by decide +kernel) hw
theorem B_Welding_giveEnds_58 {d mc ms cs ss : Nat} {L : List (Option Value)} {st : List Value} {h : g_H} {Q : g_Po} (hw : g_wp Welding_giveEnds d mc ms Q 61 [(58, 3, 34, 2, 3057, 2, .invokevirtual 81)] cs ss L st h) : G Welding_giveEnds d mc ms cs ss 58 L st h Q := G.run (by decide +kernel) hw
theorem B_Welding_giveEnds_61 {d mc ms cs ss : Nat} {L : List (Option Value)} {st : List Value} {h : g_H} {Q : g_Po} (hw : g_wp Welding_giveEnds d mc ms Q 89 [(61, 2, 0, 0, 0, 0, .aload 4), (63, 2, 0, 0, 0, 0, .aload 4), (65, 3, 2, 1, 1038, 0, .getfield 61), (68, 1, 0, 0, 0, 1, .iconst 1), (69, 1, 0, 0, 0, 0, .isub), (70, 1, 0, 0, 0, 0, .aload_n 0), (71, 3, 5, 0, 1103, 2, .getfield 11), (74, 1, 0, 0, 0, 0, .iload_n 2), (75, 1, 0, 0, 0, 1, .iconst 1), (76, 1, 0, 0, 0, 0, .iadd), (77, 1, 0, 0, 0, 0, .iaload), (78, 1, 0, 0, 0, 0, .aload_n 0), (79, 3, 5, 1, 1104, 2, .getfield 15), (82, 1, 0, 0, 0, 0, .iload_n 2), (83, 1, 0, 0, 0, 1, .iconst 1), (84, 1, 0, 0, 0, 0, .iadd), (85, 1, 0, 0, 0, 0, .iaload), (86, 3, 25, 0, 3048, 2, .invokestatic 77)] cs ss L st h) : G Welding_giveEnds d mc ms cs ss 61 L st h Q := G.run (by decide +kernel) hw
theorem B_Welding_giveEnds_89 {d mc ms cs ss : Nat} {L : List (Option Value)} {st : List Value} {h : g_H} {Q : g_Po} (hw : g_wp Welding_giveEnds d mc ms Q 92 [(89, 3, 34, 2, 3057, 2, .invokevirtual 81)] cs ss L st h) : G Welding_giveEnds d mc ms cs ss 89 L st h Q := G.run (by decide +kernel) hw
theorem B_Welding_giveEnds_92 {d mc ms cs ss : Nat} {L : List (Option Value)} {st : List Value} {h : g_H} {Q : g_Po} (hw : g_wp Welding_giveEnds d mc ms Q 95 [(92, 3, 0, 0, 0, 2, .iinc 2 2)] cs ss L st h) : G Welding_giveEnds d mc ms cs ss 92 L st h Q := G.run (by decide +kernel) hw
theorem B_Welding_giveEnds_95 {d mc ms cs ss : Nat} {L : List (Option Value)} {st : List Value} {h : g_H} {Q : g_Po} (hw : g_wp Welding_giveEnds d mc ms Q 101 [(95, 3, 0, 0, 0, 1, .iinc 3 1), (98, 3, 4, 0, 0, 0, .goto (-94))] cs ss L st h) : G Welding_giveEnds d mc ms cs ss 95 L st h Q := G.run (by decide +kernel) hw
theorem B_Welding_giveEnds_101 {d mc ms cs ss : Nat} {L : List (Option Value)} {st : List Value} {h : g_H} {Q : g_Po} (hw : g_wp Welding_giveEnds d mc ms Q 102 [(101, 1, 0, 0, 0, 0, .return_)] cs ss L st h) : G Welding_giveEnds d mc ms cs ss 101 L st h Q := G.run (by decide +kernel) hw
/-! blocks of Welding_weldNearest -/
theorem ml_Welding_weldNearest : (g_m Welding_weldNearest).2.2.1 = 11 := rfl
theorem rt_Welding_weldNearest : (g_m Welding_weldNearest).2.2.2.1 = (some .boolean) := rfl
theorem B_Welding_weldNearest_0 {d mc ms cs ss : Nat} {L : List (Option Value)} {st : List Value} {h : g_H} {Q : g_Po} (hw : g_wp Welding_weldNearest d mc ms Q 23 [(0, 1, 0, 0, 0, 0, .aload_n 0), (1, 3, 5, 4, 1107, 0, .getfield 36), (4, 2, 0, 0, 0, 20, .bipush 20), (6, 3, 9994, 0, 3040, 2, .invokestatic 85), (9, 1, 0, 0, 0, 0, .istore_n 2), (10, 1, 0, 0, 0, 0, .iload_n 1), (11, 1, 0, 0, 0, 1, .iconst 1), (12, 1, 0, 0, 0, 0, .iadd), (13, 1, 0, 0, 0, 0, .istore_n 3), (14, 1, 0, 0, 0, 0, .iconst 0), (15, 2, 0, 0, 0, 0, .istore 4), (17, 1, 0, 0, 0, 0, .iconst 0), (18, 2, 0, 0, 0, 0, .istore 5), (20, 1, 0, 0, 0, 0, .iconst 0), (21, 2, 0, 0, 0, 0, .istore 6)] cs ss L st h) : G Welding_weldNearest d mc ms cs ss 0 L st h Q := G.run (by decide +kernel) hw
theorem B_Welding_weldNearest_23 {d mc ms cs ss : Nat} {L : List (Option Value)} {st : List Value} {h : g_H} {Q : g_Po} (hw : g_wp Welding_weldNearest d mc ms Q 29 [(23, 2, 0, 0, 0, 0, .iload 6), (25, 1, 0, 0, 0, 0, .iload_n 2), (26, 3, 143, 0, 0, 0, .if_icmp .ge 117)] cs ss L st h) : G Welding_weldNearest d mc ms cs ss 23 L st h Q := G.run (by decide +kernel) hw
theorem B_Welding_weldNearest_29 {d mc ms cs ss : Nat} {L : List (Option Value)} {st : List Value} {h : g_H} {Q : g_Po} (hw : g_wp Welding_weldNearest d mc ms Q 34 [(29, 1, 0, 0, 0, 0, .iload_n 3), (30, 1, 0, 0, 0, 1, .iconst 1), (31, 3, 143, 0, 0, 0, .if_icmp .le 112)] cs ss L st h) : G Welding_weldNearest d mc ms cs ss 29 L st h Q := G.run (by decide +kernel) hw
theorem B_Welding_weldNearest_34 {d mc ms cs ss : Nat} {L : List (Option Value)} {st : List Value} {h : g_H} {Q : g_Po} (hw : g_wp Welding_weldNearest d mc ms Q 40 [(34, 2, 0, 0, 0, 0, .iload 6), (36, 1, 0, 0, 0, 1, .iconst 1), (37, 1, 0, 0, 0, 0, .iadd), (38, 2, 0, 0, 0, 0, .istore 7)] cs ss L st h) : G Welding_weldNearest d mc ms cs ss 34 L st h Q := G.run (by decide +kernel) hw
theorem B_Welding_weldNearest_40 {d mc ms cs ss : Nat} {L : List (Option Value)} {st : List Value} {h : g_H} {Q : g_Po} (hw : g_wp Welding_weldNearest d mc ms Q 46 [(40, 2, 0, 0, 0, 0, .iload 7), (42, 1, 0, 0, 0, 0, .iload_n 2), (43, 3, 137, 0, 0, 0, .if_icmp .ge 94)] cs ss L st h) : G Welding_weldNearest d mc ms cs ss 40 L st h Q := G.run (by decide +kernel) hw
theorem B_Welding_weldNearest_46 {d mc ms cs ss : Nat} {L : List (Option Value)} {st : List Value} {h : g_H} {Q : g_Po} (hw : g_wp Welding_weldNearest d mc ms Q 51 [(46, 1, 0, 0, 0, 0, .iload_n 3), (47, 1, 0, 0, 0, 1, .iconst 1), (48, 3, 137, 0, 0, 0, .if_icmp .le 89)] cs ss L st h) : G Welding_weldNearest d mc ms cs ss 46 L st h Q := G.run (by decide +kernel) hw
theorem B_Welding_weldNearest_51 {d mc ms cs ss : Nat} {L : List (Option Value)} {st : List Value} {h : g_H} {Q : g_Po} (hw : g_wp Welding_weldNearest d mc ms Q 104 [(51, 1, 0, 0, 0, 0, .aload_n 0), (52, 3, 5, 0, 1103, 2, .getfield 11), (55, 2, 0, 0, 0, 0, .iload 6), (57, 1, 0, 0, 0, 0, .iaload), (58, 1, 0, 0, 0, 0, .aload_n 0), (59, 3, 5, 0, 1103, 2, .getfield 11), (62, 2, 0, 0, 0, 0, .iload 7), (64, 1, 0, 0, 0, 0, .iaload), (65, 1, 0, 0, 0, 0, .isub), (66, 2, 0, 0, 0, 0, .istore 8), (68, 1, 0, 0, 0, 0, .aload_n 0), (69, 3, 5, 1, 1104, 2, .getfield 15), (72, 2, 0, 0, 0, 0, .iload 6), (74, 1, 0, 0, 0, 0, .iaload), (75, 1, 0, 0, 0, 0, .aload_n 0), (76, 3, 5, 1, 1104, 2, .getfield 15), (79, 2, 0, 0, 0, 0, .iload 7), (81, 1, 0, 0, 0, 0, .iaload), (82, 1, 0, 0, 0, 0, .isub), (83, 2, 0, 0, 0, 0, .istore 9), (85, 2, 0, 0, 0, 0, .iload 8), (87, 2, 0, 0, 0, 0, .iload 8), (89, 1, 0, 0, 0, 0, .imul), (90, 2, 0, 0, 0, 0, .iload 9), (92, 2, 0, 0, 0, 0, .iload 9), (94, 1, 0, 0, 0, 0, .imul), (95, 1, 0, 0, 0, 0, .iadd), (96, 2, 0, 0, 0, 0, .istore 10), (98, 2, 0, 0, 0, 0, .iload 10), (100, 1, 0, 0, 0, 0, .iload_n 3), (101, 3, 131, 0, 0, 0, .if_icmp .ge 30)] cs ss L st h) : G Welding_weldNearest d mc ms cs ss 51 L st h Q := G.run (by decide +kernel) hw
theorem B_Welding_weldNearest_104 {d mc ms cs ss : Nat} {L : List (Option Value)} {st : List Value} {h : g_H} {Q : g_Po} (hw : g_wp Welding_weldNearest d mc ms Q 109 [(104, 2, 0, 0, 0, 0, .iload 10), (106, 3, 131, 0, 0, 0, .ifCond .le 25)] cs ss L st h) : G Welding_weldNearest d mc ms cs ss 104 L st h Q := G.run (by decide +kernel) hw
theorem B_Welding_weldNearest_109 {d mc ms cs ss : Nat} {L : List (Option Value)} {st : List Value} {h : g_H} {Q : g_Po} (hw : g_wp Welding_weldNearest d mc ms Q 117 [(109, 1, 0, 0, 0, 0, .aload_n 0), (110, 2, 0, 0, 0, 0, .iload 6), (112, 2, 0, 0, 0, 0, .iload 7), (114, 3, 64, 5, 3041, 2, .invokevirtual 90)] cs ss L st h) : G Welding_weldNearest d mc ms cs ss 109 L st h Q := G.run (by decide +kernel) hw
theorem B_Welding_weldNearest_117 {d mc ms cs ss : Nat} {L : List (Option Value)} {st : List Value} {h : g_H} {Q : g_Po} (hw : g_wp Welding_weldNearest d mc ms Q 120 [(117, 3, 131, 0, 0, 0, .ifCond .eq 14)] cs ss L st h) : G Welding_weldNearest d mc ms cs ss 117 L st h Q := G.run (by decide +kernel) hw
theorem B_Welding_weldNearest_120 {d mc ms cs ss : Nat} {L : List (Option Value)} {st : List Value} {h : g_H} {Q : g_Po} (hw : g_wp Welding_weldNearest d mc ms Q 131 [(120, 2, 0, 0, 0, 0, .iload 10), (122, 1, 0, 0, 0, 0, .istore_n 3), (123, 2, 0, 0, 0, 0, .iload 6), (125, 2, 0, 0, 0, 0, .istore 4), (127, 2, 0, 0, 0, 0, .iload 7), (129, 2, 0, 0, 0, 0, .istore 5)] cs ss L st h) : G Welding_weldNearest d mc ms cs ss 120 L st h Q := G.run (by decide +kernel) hw
theorem B_Welding_weldNearest_131 {d mc ms cs ss : Nat} {L : List (Option Value)} {st : List Value} {h : g_H} {Q : g_Po} (hw : g_wp Welding_weldNearest d mc ms Q 137 [(131, 3, 0, 0, 0, 1, .iinc 7 1), (134, 3, 40, 0, 0, 0, .goto (-94))] cs ss L st h) : G Welding_weldNearest d mc ms cs ss 131 L st h Q := G.run (by decide +kernel) hw
theorem B_Welding_weldNearest_137 {d mc ms cs ss : Nat} {L : List (Option Value)} {st : List Value} {h : g_H} {Q : g_Po} (hw : g_wp Welding_weldNearest d mc ms Q 143 [(137, 3, 0, 0, 0, 1, .iinc 6 1), (140, 3, 23, 0, 0, 0, .goto (-117))] cs ss L st h) : G Welding_weldNearest d mc ms cs ss 137 L st h Q := G.run (by decide +kernel) hw
theorem B_Welding_weldNearest_143 {d mc ms cs ss : Nat} {L : List (Option Value)} {st : List Value} {h : g_H} {Q : g_Po} (hw : g_wp Welding_weldNearest d mc ms Q 148 [(143, 1, 0, 0, 0, 0, .iload_n 3), (144, 1, 0, 0, 0, 0, .iload_n 1), (145, 3, 150, 0, 0, 0, .if_icmp .le 5)] cs ss L st h) : G Welding_weldNearest d mc ms cs ss 143 L st h Q := G.run (by decide +kernel) hw
theorem B_Welding_weldNearest_148 {d mc ms cs ss : Nat} {L : List (Option Value)} {st : List Value} {h : g_H} {Q : g_Po} (hw : g_wp Welding_weldNearest d mc ms Q 150 [(148, 1, 0, 0, 0, 0, .iconst 0), (149, 1, 0, 0, 0, 0, .ireturn)] cs ss L st h) : G Welding_weldNearest d mc ms cs ss 148 L st h Q := G.run (by decide +kernel) hw
theorem B_Welding_weldNearest_150 {d mc ms cs ss : Nat} {L : List (Option Value)} {st : List Value} {h : g_H} {Q : g_Po} (hw : g_wp Welding_weldNearest d mc ms Q 167 [(150, 1, 0, 0, 0, 0, .aload_n 0), (151, 3, 5, 0, 1103, 2, .getfield 11), (154, 2, 0, 0, 0, 0, .iload 4), (156, 1, 0, 0, 0, 0, .iaload), (157, 1, 0, 0, 0, 0, .aload_n 0), (158, 3, 5, 0, 1103, 2, .getfield 11), (161, 2, 0, 0, 0, 0, .iload 5), (163, 1, 0, 0, 0, 0, .iaload), (164, 3, 63, 0, 3045, 2, .invokestatic 94)] cs ss L st h) : G Welding_weldNearest d mc ms cs ss 150 L st h Q := G.run (by decide +kernel) hw
theorem B_Welding_weldNearest_167 {d mc ms cs ss : Nat} {L : List (Option Value)} {st : List Value} {h : g_H} {Q : g_Po} (hw : g_wp Welding_weldNearest d mc ms Q 186 [(167, 2, 0, 0, 0, 0, .istore 6), (169, 1, 0, 0, 0, 0, .aload_n 0), (170, 3, 5, 1, 1104, 2, .getfield 15), (173, 2, 0, 0, 0, 0, .iload 4), (175, 1, 0, 0, 0, 0, .iaload), (176, 1, 0, 0, 0, 0, .aload_n 0), (177, 3, 5, 1, 1104, 2, .getfield 15), (180, 2, 0, 0, 0, 0, .iload 5), (182, 1, 0, 0, 0, 0, .iaload), (183, 3, 63, 0, 3045, 2, .invokestatic 94)] cs ss L st h) : G Welding_weldNearest d mc ms cs ss 167 L st h Q := G.run (by decide +kernel) hw
theorem B_Welding_weldNearest_186 {d mc ms cs ss : Nat} {L : List (Option Value)} {st : List Value} {h : g_H} {Q : g_Po} (hw : g_wp Welding_weldNearest d mc ms Q 198 [(186, 2, 0, 0, 0, 0, .istore 7), (188, 1, 0, 0, 0, 0, .aload_n 0), (189, 2, 0, 0, 0, 0, .iload 4), (191, 2, 0, 0, 0, 0, .iload 6), (193, 2, 0, 0, 0, 0, .iload 7), (195, 3, 65, 5, 3049, 3, .invokevirtual 97)] cs ss L st h) : G Welding_weldNearest d mc ms cs ss 186 L st h Q := G.run (by decide +kernel) hw
theorem B_Welding_weldNearest_198 {d mc ms cs ss : Nat} {L : List (Option Value)} {st : List Value} {h : g_H} {Q : g_Po} (hw : g_wp Welding_weldNearest d mc ms Q 208 [(198, 1, 0, 0, 0, 0, .aload_n 0), (199, 2, 0, 0, 0, 0, .iload 5), (201, 2, 0, 0, 0, 0, .iload 6), (203, 2, 0, 0, 0, 0, .iload 7), (205, 3, 65, 5, 3049, 3, .invokevirtual 97)] cs ss L st h) : G Welding_weldNearest d mc ms cs ss 198 L st h Q := G.run (by decide +kernel) hw
theorem B_Welding_weldNearest_208 {d mc ms cs ss : Nat} {L : List (Option Value)} {st : List Value} {h : g_H} {Q : g_Po} (hw : g_wp Welding_weldNearest d mc ms Q 210 [(208, 1, 0, 0, 0, 1, .iconst 1), (209, 1, 0, 0, 0, 0, .ireturn)] cs ss L st h) : G Welding_weldNearest d mc ms cs ss 208 L st h Q := G.run (by decide +kernel) hw
/-! blocks of Welding_middle -/
theorem ml_Welding_middle : (g_m Welding_middle).2.2.1 = 2 := rfl
theorem rt_Welding_middle : (g_m Welding_middle).2.2.2.1 = (some .int) := rfl
theorem B_Welding_middle_0 {d mc ms cs ss : Nat} {L : List (Option Value)} {st : List Value} {h : g_H} {Q : g_Po} (hw : g_wp Welding_middle d mc ms Q 6 [(0, 1, 0, 0, 0, 0, .iload_n 0), (1, 1, 0, 0, 0, 0, .iload_n 1), (2, 1, 0, 0, 0, 0, .iadd), (3, 1, 0, 0, 0, 2, .iconst 2), (4, 1, 0, 0, 0, 0, .idiv), (5, 1, 0, 0, 0, 0, .ireturn)] cs ss L st h) : G Welding_middle d mc ms cs ss 0 L st h Q := G.run (by decide +kernel) hw
/-! blocks of Welding_mayWeld -/
theorem ml_Welding_mayWeld : (g_m Welding_mayWeld).2.2.1 = 4 := rfl
theorem rt_Welding_mayWeld : (g_m Welding_mayWeld).2.2.2.1 = (some .boolean) := rfl
theorem B_Welding_mayWeld_0 {d mc ms cs ss : Nat} {L : List (Option Value)} {st : List Value} {h : g_H} {Q : g_Po} (hw : g_wp Welding_mayWeld d mc ms Q 9 [(0, 1, 0, 0, 0, 0, .iload_n 1), (1, 1, 0, 0, 0, 1, .iconst 1), (2, 1, 0, 0, 0, 0, .ishr), (3, 1, 0, 0, 0, 0, .iload_n 2), (4, 1, 0, 0, 0, 1, .iconst 1), (5, 1, 0, 0, 0, 0, .ishr), (6, 3, 21, 0, 0, 0, .if_icmp .ne 15)] cs ss L st h) : G Welding_mayWeld d mc ms cs ss 0 L st h Q := G.run (by decide +kernel) hw
theorem B_Welding_mayWeld_9 {d mc ms cs ss : Nat} {L : List (Option Value)} {st : List Value} {h : g_H} {Q : g_Po} (hw : g_wp Welding_mayWeld d mc ms Q 19 [(9, 1, 0, 0, 0, 0, .aload_n 0), (10, 3, 5, 3, 1106, 2, .getfield 21), (13, 1, 0, 0, 0, 0, .iload_n 1), (14, 1, 0, 0, 0, 0, .iaload), (15, 1, 0, 0, 0, 4, .iconst 4), (16, 3, 21, 0, 0, 0, .if_icmp .ge 5)] cs ss L st h) : G Welding_mayWeld d mc ms cs ss 9 L st h Q := G.run (by decide +kernel) hw
theorem B_Welding_mayWeld_19 {d mc ms cs ss : Nat} {L : List (Option Value)} {st : List Value} {h : g_H} {Q : g_Po} (hw : g_wp Welding_mayWeld d mc ms Q 21 [(19, 1, 0, 0, 0, 0, .iconst 0), (20, 1, 0, 0, 0, 0, .ireturn)] cs ss L st h) : G Welding_mayWeld d mc ms cs ss 19 L st h Q := G.run (by decide +kernel) hw
theorem B_Welding_mayWeld_21 {d mc ms cs ss : Nat} {L : List (Option Value)} {st : List Value} {h : g_H} {Q : g_Po} (hw : g_wp Welding_mayWeld d mc ms Q 36 [(21, 1, 0, 0, 0, 0, .aload_n 0), (22, 3, 5, 0, 1103, 2, .getfield 11), (25, 1, 0, 0, 0, 0, .iload_n 1), (26, 1, 0, 0, 0, 0, .iaload), (27, 1, 0, 0, 0, 0, .aload_n 0), (28, 3, 5, 0, 1103, 2, .getfield 11), (31, 1, 0, 0, 0, 0, .iload_n 2), (32, 1, 0, 0, 0, 0, .iaload), (33, 3, 63, 0, 3045, 2, .invokestatic 94)] cs ss L st h) : G Welding_mayWeld d mc ms cs ss 21 L st h Q := G.run (by decide +kernel) hw
theorem B_Welding_mayWeld_36 {d mc ms cs ss : Nat} {L : List (Option Value)} {st : List Value} {h : g_H} {Q : g_Po} (hw : g_wp Welding_mayWeld d mc ms Q 51 [(36, 1, 0, 0, 0, 0, .aload_n 0), (37, 3, 5, 1, 1104, 2, .getfield 15), (40, 1, 0, 0, 0, 0, .iload_n 1), (41, 1, 0, 0, 0, 0, .iaload), (42, 1, 0, 0, 0, 0, .aload_n 0), (43, 3, 5, 1, 1104, 2, .getfield 15), (46, 1, 0, 0, 0, 0, .iload_n 2), (47, 1, 0, 0, 0, 0, .iaload), (48, 3, 63, 0, 3045, 2, .invokestatic 94)] cs ss L st h) : G Welding_mayWeld d mc ms cs ss 36 L st h Q := G.run (by decide +kernel) hw
theorem B_Welding_mayWeld_51 {d mc ms cs ss : Nat} {L : List (Option Value)} {st : List Value} {h : g_H} {Q : g_Po} (hw : g_wp Welding_mayWeld d mc ms Q 54 [(51, 3, 25, 0, 3048, 2, .invokestatic 77)] cs ss L st h) : G Welding_mayWeld d mc ms cs ss 51 L st h Q := G.run (by decide +kernel) hw
theorem B_Welding_mayWeld_54 {d mc ms cs ss : Nat} {L : List (Option Value)} {st : List Value} {h : g_H} {Q : g_Po} (hw : g_wp Welding_mayWeld d mc ms Q 65 [(54, 1, 0, 0, 0, 0, .istore_n 3), (55, 1, 0, 0, 0, 0, .iload_n 3), (56, 1, 0, 0, 0, 0, .aload_n 0), (57, 3, 5, 2, 1105, 2, .getfield 18), (60, 1, 0, 0, 0, 0, .iload_n 1), (61, 1, 0, 0, 0, 0, .iaload), (62, 3, 79, 0, 0, 0, .if_icmp .eq 17)] cs ss L st h) : G Welding_mayWeld d mc ms cs ss 54 L st h Q := G.run (by decide +kernel) hw
theorem B_Welding_mayWeld_65 {d mc ms cs ss : Nat} {L : List (Option Value)} {st : List Value} {h : g_H} {Q : g_Po} (hw : g_wp Welding_mayWeld d mc ms Q 75 [(65, 1, 0, 0, 0, 0, .iload_n 3), (66, 1, 0, 0, 0, 0, .aload_n 0), (67, 3, 5, 2, 1105, 2, .getfield 18), (70, 1, 0, 0, 0, 0, .iload_n 2), (71, 1, 0, 0, 0, 0, .iaload), (72, 3, 79, 0, 0, 0, .if_icmp .eq 7)] cs ss L st h) : G Welding_mayWeld d mc ms cs ss 65 L st h Q := G.run (by decide +kernel) hw
theorem B_Welding_mayWeld_75 {d mc ms cs ss : Nat} {L : List (Option Value)} {st : List Value} {h : g_H} {Q : g_Po} (hw : g_wp Welding_mayWeld d mc ms Q 79 [(75, 1, 0, 0, 0, 1, .iconst 1), (76, 3, 80, 0, 0, 0, .goto 4)] cs ss L st h) : G Welding_mayWeld d mc ms cs ss 75 L st h Q := G.run (by decide +kernel) hw
theorem B_Welding_mayWeld_79 {d mc ms cs ss : Nat} {L : List (Option Value)} {st : List Value} {h : g_H} {Q : g_Po} (hw : g_wp Welding_mayWeld d mc ms Q 80 [(79, 1, 0, 0, 0, 0, .iconst 0)] cs ss L st h) : G Welding_mayWeld d mc ms cs ss 79 L st h Q := G.run (by decide +kernel) hw
theorem B_Welding_mayWeld_80 {d mc ms cs ss : Nat} {L : List (Option Value)} {st : List Value} {h : g_H} {Q : g_Po} (hw : g_wp Welding_mayWeld d mc ms Q 81 [(80, 1, 0, 0, 0, 0, .ireturn)] cs ss L st h) : G Welding_mayWeld d mc ms cs ss 80 L st h Q := G.run (by decide +kernel) hw
/-! blocks of Welding_putEnd -/
theorem ml_Welding_putEnd : (g_m Welding_putEnd).2.2.1 = 5 := rfl
theorem rt_Welding_putEnd : (g_m Welding_putEnd).2.2.2.1 = none := rfl
theorem B_Welding_putEnd_0 {d mc ms cs ss : Nat} {L : List (Option Value)} {st : List Value} {h : g_H} {Q : g_Po} (hw : g_wp Welding_putEnd d mc ms Q 4 [(0, 1, 0, 0, 0, 0, .iload_n 1), (1, 3, 10, 0, 0, 0, .ifCond .lt 9)] cs ss L st h) : G Welding_putEnd d mc ms cs ss 0 L st h Q := G.run (by decide +kernel) hw
theorem B_Welding_putEnd_4 {d mc ms cs ss : Nat} {L : List (Option Value)} {st : List Value} {h : g_H} {Q : g_Po} (hw : g_wp Welding_putEnd d mc ms Q 10 [(4, 1, 0, 0, 0, 0, .iload_n 1), (5, 2, 0, 0, 0, 20, .bipush 20), (7, 3, 11, 0, 0, 0, .if_icmp .lt 4)] cs ss L st h) : G Welding_putEnd d mc ms cs ss 4 L st h Q := G.run (by decide +kernel) hw
theorem B_Welding_putEnd_10 {d mc ms cs ss : Nat} {L : List (Option Value)} {st : List Value} {h : g_H} {Q : g_Po} (hw : g_wp Welding_putEnd d mc ms Q 11 [(10, 1, 0, 0, 0, 0, .return_)] cs ss L st h) : G Welding_putEnd d mc ms cs ss 10 L st h Q := G.run (by decide +kernel) hw
theorem B_Welding_putEnd_11 {d mc ms cs ss : Nat} {L : List (Option Value)} {st : List Value} {h : g_H} {Q : g_Po} (hw : g_wp Welding_putEnd d mc ms Q 40 [(11, 1, 0, 0, 0, 0, .aload_n 0), (12, 3, 5, 0, 1103, 2, .getfield 11), (15, 1, 0, 0, 0, 0, .iload_n 1), (16, 1, 0, 0, 0, 0, .iload_n 2), (17, 1, 0, 0, 0, 0, .iastore), (18, 1, 0, 0, 0, 0, .aload_n 0), (19, 3, 5, 1, 1104, 2, .getfield 15), (22, 1, 0, 0, 0, 0, .iload_n 1), (23, 1, 0, 0, 0, 0, .iload_n 3), (24, 1, 0, 0, 0, 0, .iastore), (25, 1, 0, 0, 0, 0, .iload_n 1), (26, 1, 0, 0, 0, 1, .iconst 1), (27, 1, 0, 0, 0, 0, .ixor), (28, 2, 0, 0, 0, 0, .istore 4), (30, 1, 0, 0, 0, 0, .aload_n 0), (31, 3, 5, 3, 1106, 2, .getfield 21), (34, 1, 0, 0, 0, 0, .iload_n 1), (35, 1, 0, 0, 0, 0, .iaload), (36, 1, 0, 0, 0, 2, .iconst 2), (37, 3, 59, 0, 0, 0, .if_icmp .ne 22)] cs ss L st h) : G Welding_putEnd d mc ms cs ss 11 L st h Q := G.run (by decide +kernel) hw
theorem B_Welding_putEnd_40 {d mc ms cs ss : Nat} {L : List (Option Value)} {st : List Value} {h : g_H} {Q : g_Po} (hw : g_wp Welding_putEnd d mc ms Q 47 [(40, 2, 0, 0, 0, 0, .iload 4), (42, 2, 0, 0, 0, 20, .bipush 20), (44, 3, 59, 0, 0, 0, .if_icmp .ge 15)] cs ss L st h) : G Welding_putEnd d mc ms cs ss 40 L st h Q := G.run (by decide +kernel) hw
theorem B_Welding_putEnd_47 {d mc ms cs ss : Nat} {L : List (Option Value)} {st : List Value} {h : g_H} {Q : g_Po} (hw : g_wp Welding_putEnd d mc ms Q 58 [(47, 1, 0, 0, 0, 0, .aload_n 0), (48, 3, 5, 2, 1105, 2, .getfield 18), (51, 2, 0, 0, 0, 0, .iload 4), (53, 1, 0, 0, 0, 0, .iload_n 2), (54, 1, 0, 0, 0, 0, .iload_n 3), (55, 3, 25, 0, 3048, 2, .invokestatic 77)] cs ss L st h) : G Welding_putEnd d mc ms cs ss 47 L st h Q := G.run (by decide +kernel) hw
theorem B_Welding_putEnd_58 {d mc ms cs ss : Nat} {L : List (Option Value)} {st : List Value} {h : g_H} {Q : g_Po} (hw : g_wp Welding_putEnd d mc ms Q 59 [(58, 1, 0, 0, 0, 0, .iastore)] cs ss L st h) : G Welding_putEnd d mc ms cs ss 58 L st h Q := G.run (by decide +kernel) hw
theorem B_Welding_putEnd_59 {d mc ms cs ss : Nat} {L : List (Option Value)} {st : List Value} {h : g_H} {Q : g_Po} (hw : g_wp Welding_putEnd d mc ms Q 60 [(59, 1, 0, 0, 0, 0, .return_)] cs ss L st h) : G Welding_putEnd d mc ms cs ss 59 L st h Q := G.run (by decide +kernel) hw
theorem Wld_mid_c {d : Nat} {x y : Int} {h : g_H} {Q : g_Po} (hx : 0 ≤ x ∧ x ≤ 999) (hy : 0 ≤ y ∧ y ≤ 999) (hQ : Q (some (.int (I ((x + y) / 2)))) h) : Call Welding_middle d 0 0 [.int (I x), .int (I y)] h Q := by
  have e : I (x + y) / I 2 = I ((x + y) / 2) := by rw [I_div (by omega) (by omega), Int.tdiv_eq_ediv_of_nonneg (by omega)]
  refine Call.intro (by rfl) (Nat.le_of_ble_eq_true rfl) ?_
  refine G.eqL (L := [some (.int _), some (.int _)]) rfl ?_
  refine B_Welding_middle_0 ?_
  simp only [wp_cons, wp_nil, List.getElem?_cons_zero, List.getElem?_cons_succ, List.set_cons_zero, List.set_cons_succ, s_iload_n0, ldI_s, s_iload_n1, s_iadd, p2_s, I_add, s_iconst, s_idiv, ne_k1000, ne_k2, s_ireturn, p1_s, rI_i, rI_z, rI_c, z_01, z_11, rt_Welding_middle, true_and, and_true, Nat.le_refl, true_implies, forall_const, not_false_eq_true, false_implies, not_true_eq_false, reduceCtorEq, tl_s, tl_n, rf_s, List.cons_append, List.nil_append, true_or, or_true, e]
  exact hQ
theorem Wld_add_c {d a n : Nat} (d1 : 1 ≤ d) {p b z : Int} {X Y B Z : Nat → Int} {h : g_H} {Q : g_Po} (ha : wl h a X Y B Z n) (hn : n < 20) (hp : pt p) (hQ : ∀ h', chg a (a + 5) h h' → wl h' a (ui X n (p / 1000)) (ui Y n (p % 1000)) (ui B n b) (ui Z n z) (n + 1) → Q none h') : Call Welding_addEnd d 0 0 [.ref a, .int (I p), .int (I b), .int (I z)] h Q := by
  obtain ⟨q0, q1, q2, q3, q4⟩ := id ha
  have c0 : ∀ v, chg a (a + 5) h (h.set (a + 1) v) := fun v => chg.set _ (by omega)
  have k1 : ∀ h v, (List.set h (a + 1) v : g_H)[a]? = h[a]? := hs_ne (by omega)
  have k2 : ∀ h v, (List.set h (a + 1) v : g_H)[a + 2]? = h[a + 2]? := hs_ne (by omega)
  have k3 : ∀ h v, (List.set h (a + 1) v : g_H)[a + 3]? = h[a + 3]? := hs_ne (by omega)
  have k4 : ∀ h v, (List.set h (a + 1) v : g_H)[a + 4]? = h[a + 4]? := hs_ne (by omega)
  have k5 : ∀ h v, (List.set h (a + 2) v : g_H)[a]? = h[a]? := hs_ne (by omega)
  have k6 : ∀ h v, (List.set h (a + 2) v : g_H)[a + 3]? = h[a + 3]? := hs_ne (by omega)
  have k7 : ∀ h v, (List.set h (a + 2) v : g_H)[a + 4]? = h[a + 4]? := hs_ne (by omega)
  have k8 : ∀ h v, (List.set h (a + 3) v : g_H)[a]? = h[a]? := hs_ne (by omega)
  have k9 : ∀ h v, (List.set h (a + 3) v : g_H)[a + 4]? = h[a + 4]? := hs_ne (by omega)
  have k0 : ∀ h v, (List.set h (a + 4) v : g_H)[a]? = h[a]? := hs_ne (by omega)
  refine Call.intro (by rfl) (Nat.le_of_ble_eq_true rfl) ?_
  refine G.eqL (L := [some (.ref _), some (.int _), some (.int _), some (.int _)]) rfl ?_
  refine B_Welding_addEnd_0 ?_
  simp only [wp_cons, wp_nil, List.getElem?_cons_zero, List.getElem?_cons_succ, List.set_cons_zero, List.set_cons_succ, s_aload_n0, ldA_r, ldA_n, ldA_s, s_getfield, pR_s, ob_s, gt_s, s_ifCond_lt, p1_s, true_and, and_true, Nat.le_refl, true_implies, forall_const, not_false_eq_true, false_implies, not_true_eq_false, reduceCtorEq, tl_s, tl_n, rf_s, List.cons_append, List.nil_append, true_or, or_true, q0, q1, q2, q3, q4, k1, k2, k3, k4, k5, k6, k7, k8, k9, k0, ex_ix (i := n) (n := 20) (by omega), ex_iy (i := n) (n := 20) (by omega), upd_ui, Nat.reduceLT, Nat.reduceAdd]
  refine b_lt (by omega) (by omega) (fun cc => absurd cc (by omega)) (fun cc => ?_)
  refine B_Welding_addEnd_7 ?_
  simp only [wp_cons, wp_nil, List.getElem?_cons_zero, List.getElem?_cons_succ, List.set_cons_zero, List.set_cons_succ, s_aload_n0, ldA_r, ldA_n, ldA_s, s_getfield, pR_s, ob_s, gt_s, s_bipush, s_if_icmp_ge, p2_s, true_and, and_true, Nat.le_refl, true_implies, forall_const, not_false_eq_true, false_implies, not_true_eq_false, reduceCtorEq, tl_s, tl_n, rf_s, List.cons_append, List.nil_append, true_or, or_true, q0, q1, q2, q3, q4, k1, k2, k3, k4, k5, k6, k7, k8, k9, k0, ex_ix (i := n) (n := 20) (by omega), ex_iy (i := n) (n := 20) (by omega), upd_ui, Nat.reduceLT, Nat.reduceAdd]
  refine b_le (by omega) (by omega) (fun cc => absurd cc (by omega)) (fun cc => ?_)
  refine B_Welding_addEnd_16 ?_
  simp only [wp_cons, wp_nil, List.getElem?_cons_zero, List.getElem?_cons_succ, List.set_cons_zero, List.set_cons_succ, s_aload_n0, ldA_r, ldA_n, ldA_s, s_getfield, pR_s, ob_s, gt_s, s_iload_n1, ldI_s, s_invokestatic, rc_s, List.drop_succ_cons, List.drop_zero, List.take_succ_cons, List.take_zero, List.reverse_cons, List.reverse_nil, List.nil_append, List.cons_append, List.length_cons, List.length_nil, Nat.reduceEqDiff, eq_self, reduceIte, p1_s, p2_s, l1_s, d1, Int.reduceToNat, Nat.reduceAdd, Nat.reduceLeDiff, true_and, and_true, Nat.le_refl, true_implies, forall_const, not_false_eq_true, false_implies, not_true_eq_false, reduceCtorEq, tl_s, tl_n, rf_s, true_or, or_true, q0, q1, q2, q3, q4, k1, k2, k3, k4, k5, k6, k7, k8, k9, k0, ex_ix (i := n) (n := 20) (by omega), ex_iy (i := n) (n := 20) (by omega), upd_ui, Nat.reduceLT]
  refine Plane_xOf_c hp ?_
  refine B_Welding_addEnd_28 ?_
  simp only [wp_cons, wp_nil, List.getElem?_cons_zero, List.getElem?_cons_succ, List.set_cons_zero, List.set_cons_succ, s_iastore, iiR_s, ia_s, s_aload_n0, ldA_r, ldA_n, ldA_s, s_getfield, pR_s, ob_s, gt_s, s_iload_n1, ldI_s, s_invokestatic, rc_s, List.drop_succ_cons, List.drop_zero, List.take_succ_cons, List.take_zero, List.reverse_cons, List.reverse_nil, List.nil_append, List.cons_append, List.length_cons, List.length_nil, Nat.reduceEqDiff, eq_self, reduceIte, p1_s, p2_s, l1_s, d1, Int.reduceToNat, Nat.reduceAdd, Nat.reduceLeDiff, true_and, and_true, Nat.le_refl, true_implies, forall_const, not_false_eq_true, false_implies, not_true_eq_false, reduceCtorEq, tl_s, tl_n, rf_s, true_or, or_true, q0, q1, q2, q3, q4, k1, k2, k3, k4, k5, k6, k7, k8, k9, k0, ex_ix (i := n) (n := 20) (by omega), ex_iy (i := n) (n := 20) (by omega), upd_ui, Nat.reduceLT]
  refine Plane_yOf_c hp ?_
  refine B_Welding_addEnd_41 ?_
  simp only [wp_cons, wp_nil, List.getElem?_cons_zero, List.getElem?_cons_succ, List.set_cons_zero, List.set_cons_succ, s_iastore, iiR_s, ia_s, s_aload_n0, ldA_r, ldA_n, ldA_s, s_getfield, pR_s, ob_s, gt_s, s_iload_n2, ldI_s, s_iload_n3, s_dup, p1v_i, p1v_r, s_iconst, s_iadd, p2_s, I_add, s_putfield, pv_i, pv_z, pv_r, pv_f, z_01, z_11, List.length_cons, List.length_nil, true_and, and_true, Nat.le_refl, true_implies, forall_const, not_false_eq_true, false_implies, not_true_eq_false, reduceCtorEq, tl_s, tl_n, rf_s, List.cons_append, List.nil_append, true_or, or_true, q0, q1, q2, q3, q4, k1, k2, k3, k4, k5, k6, k7, k8, k9, k0, ex_ix (i := n) (n := 20) (by omega), ex_iy (i := n) (n := 20) (by omega), upd_ui, Nat.reduceLT, Nat.reduceAdd]
  refine B_Welding_addEnd_72 ?_
  simp only [wp_cons, wp_nil, List.getElem?_cons_zero, List.getElem?_cons_succ, List.set_cons_zero, List.set_cons_succ, s_return_, rt_Welding_addEnd, true_and, and_true, Nat.le_refl, true_implies, forall_const, not_false_eq_true, false_implies, not_true_eq_false, reduceCtorEq, tl_s, tl_n, rf_s, List.cons_append, List.nil_append, true_or, or_true, q0, q1, q2, q3, q4, k1, k2, k3, k4, k5, k6, k7, k8, k9, k0, ex_ix (i := n) (n := 20) (by omega), ex_iy (i := n) (n := 20) (by omega), upd_ui, Nat.reduceLT, Nat.reduceAdd]
  refine hQ _ (((((c0 _).tr (chg.set _ (by omega))).tr (chg.set _ (by omega))).tr (chg.set _ (by omega))).tr (chg.set _ (by omega))) ⟨?_, ?_, ?_, ?_, ?_⟩
  · rw [h_at (e := .inr (.inr (5, [.ref (a + 1), .ref (a + 2), .ref (a + 3), .ref (a + 4), .int (I (n : Int))]))) _ (by rw [k0, k8, k5, k1, q0])]; rfl
  · rw [h_ne _ (by omega), h_ne _ (by omega), h_ne _ (by omega), h_ne _ (by omega), h_at _ q1]
  · rw [h_ne _ (by omega), h_ne _ (by omega), h_ne _ (by omega), h_at _ (by rw [k2, q2])]
  · rw [h_ne _ (by omega), h_ne _ (by omega), h_at _ (by rw [k6, k3, q3])]
  · rw [h_ne _ (by omega), h_at _ (by rw [k9, k7, k4, q4])]
theorem Wld_take_l {d a dd : Nat} (d2 : 2 ≤ d) {Ss : List Stk} {pn : Stk} {σ : Nat → Nat} (w : wfD Ss) {h0 : g_H} {Q : g_Po} (hd : a + 5 ≤ dd ∨ dd + 24 ≤ a) (hs : drw h0 dd σ Ss pn) (hQ : ∀ h' X Y B Z, chg a (a + 5) h0 h' → wl h' a X Y B Z (2 * oc Ss Ss.length) → wr Ss X Y B Z (2 * oc Ss Ss.length) → Q none h') :
    ∀ (m i : Nat) (h : g_H) (X Y B Z : Nat → Int) (x3 : Option Value), i + m = Ss.length → chg a (a + 5) h0 h → wl h a X Y B Z (2 * oc Ss i) → (∀ e, eo Ss e → e / 2 < i → X (ke Ss e) = ep Ss e / 1000 ∧ Y (ke Ss e) = ep Ss e % 1000 ∧ B (ke Ss e) = eb Ss e ∧ Z (ke Ss e) = (ez Ss e : Int)) →
    G Welding_takeEnds d 0 0 0 0 7 [some (.ref a), some (.ref dd), some (.int (I (i : Int))), x3] [] h Q := by
  have d1 : 1 ≤ d := by omega
  intro m
  induction m with
  | zero =>
    intro i h X Y B Z x3 hi hc hw hr
    obtain rfl : i = Ss.length := by omega
    obtain ⟨a1, a2, ⟨f, a3, a4⟩, a5, a6, a7, a8, a9⟩ := id (hs.kp hc (by omega))
    refine B_Welding_takeEnds_7 ?_
    simp only [wp_cons, wp_nil, List.getElem?_cons_zero, List.getElem?_cons_succ, List.set_cons_zero, List.set_cons_succ, s_iload_n2, ldI_s, s_aload_n1, ldA_r, ldA_n, ldA_s, s_getfield, pR_s, ob_s, gt_s, s_if_icmp_ge, p2_s, true_and, and_true, Nat.le_refl, true_implies, forall_const, not_false_eq_true, false_implies, not_true_eq_false, reduceCtorEq, tl_s, tl_n, rf_s, List.cons_append, List.nil_append, true_or, or_true, a2]
    refine b_le (by omega) (by omega) (fun cc => ?_) (fun cc => absurd cc (by omega))
    refine B_Welding_takeEnds_77 ?_
    simp only [wp_cons, wp_nil, List.getElem?_cons_zero, List.getElem?_cons_succ, List.set_cons_zero, List.set_cons_succ, s_return_, rt_Welding_takeEnds, true_and, and_true, Nat.le_refl, true_implies, forall_const, not_false_eq_true, false_implies, not_true_eq_false, reduceCtorEq, tl_s, tl_n, rf_s, List.cons_append, List.nil_append, true_or, or_true, a2]
    exact hQ h X Y B Z hc hw ⟨rfl, fun e he => hr e he (by have := he.1; omega)⟩
  | succ m ih =>
    intro i h X Y B Z x3 hi hc hw hr
    have hs1 := hs.kp hc (by omega)
    obtain ⟨a1, a2, ⟨f, a3, a4⟩, a5, a6, a7, a8, a9⟩ := id hs1
    have st := a9 i (by omega)
    have sl := a6 i (by omega)
    obtain ⟨g, k1, k2, k3⟩ := id st
    obtain ⟨w1, w2, w3, w4, w5⟩ := w.2 i (by omega)
    have ho := oc_le Ss i
    obtain ⟨q0, q1, q2, q3, q4⟩ := id hw
    refine B_Welding_takeEnds_7 ?_
    simp only [wp_cons, wp_nil, List.getElem?_cons_zero, List.getElem?_cons_succ, List.set_cons_zero, List.set_cons_succ, s_iload_n2, ldI_s, s_aload_n1, ldA_r, ldA_n, ldA_s, s_getfield, pR_s, ob_s, gt_s, s_if_icmp_ge, p2_s, true_and, and_true, Nat.le_refl, true_implies, forall_const, not_false_eq_true, false_implies, not_true_eq_false, reduceCtorEq, tl_s, tl_n, rf_s, List.cons_append, List.nil_append, true_or, or_true, a2, k1.1, q0]
    refine b_le (by omega) (by omega) (fun cc => absurd cc (by omega)) (fun cc => ?_)
    refine B_Welding_takeEnds_15 ?_
    simp only [wp_cons, wp_nil, List.getElem?_cons_zero, List.getElem?_cons_succ, List.set_cons_zero, List.set_cons_succ, s_aload_n1, ldA_r, ldA_n, ldA_s, s_iload_n2, ldI_s, s_invokevirtual, rc_s, ob_s, List.drop_succ_cons, List.drop_zero, List.take_succ_cons, List.take_zero, List.reverse_cons, List.reverse_nil, List.nil_append, List.cons_append, List.length_cons, List.length_nil, d1, Int.reduceToNat, Nat.reduceAdd, Nat.reduceLeDiff, true_and, and_true, Nat.le_refl, true_implies, forall_const, not_false_eq_true, false_implies, not_true_eq_false, reduceCtorEq, tl_s, tl_n, rf_s, true_or, or_true, a2, k1.1, q0]
    refine Drawing_find_c hs1 (by omega) ?_
    cases hz : (sg Ss i).2 with
    | true =>
      have hz1 : sz (sg Ss i).2 = 1 := by rw [hz]; rfl
      refine B_Welding_takeEnds_20 ?_
      simp only [wp_cons, wp_nil, List.getElem?_cons_zero, List.getElem?_cons_succ, List.set_cons_zero, List.set_cons_succ, s_astore_n3, pA_r, pA_n, s1_0, s1_s, kx_i, kx_r, kx_s, kx_n, kx_l, kx_0, s_aload_n3, ldA_r, ldA_n, ldA_s, s_ifnull, true_and, and_true, Nat.le_refl, true_implies, forall_const, not_false_eq_true, false_implies, not_true_eq_false, reduceCtorEq, tl_s, tl_n, rf_s, List.cons_append, List.nil_append, true_or, or_true, a2, k1.1, q0]
      refine B_Welding_takeEnds_25 ?_
      simp only [wp_cons, wp_nil, List.getElem?_cons_zero, List.getElem?_cons_succ, List.set_cons_zero, List.set_cons_succ, s_aload_n3, ldA_r, ldA_n, ldA_s, s_getfield, pR_s, ob_s, gt_s, s_ifCond_ne, p1_s, true_and, and_true, Nat.le_refl, true_implies, forall_const, not_false_eq_true, false_implies, not_true_eq_false, reduceCtorEq, tl_s, tl_n, rf_s, List.cons_append, List.nil_append, true_or, or_true, a2, k1.1, q0]
      refine b_ne (by omega) (by omega) (fun cc => ?_) (fun cc => absurd cc (by omega))
      refine B_Welding_takeEnds_71 ?_
      simp only [wp_cons, wp_nil, List.getElem?_cons_zero, List.getElem?_cons_succ, List.set_cons_zero, List.set_cons_succ, s_iinc, ldI_s, s1_0, s1_s, kx_i, kx_r, kx_s, kx_n, kx_l, kx_0, I_add, s_goto, true_and, and_true, Nat.le_refl, true_implies, forall_const, not_false_eq_true, false_implies, not_true_eq_false, reduceCtorEq, tl_s, tl_n, rf_s, List.cons_append, List.nil_append, true_or, or_true, a2, k1.1, q0]
      refine ih (i + 1) h X Y B Z _ (by omega) hc (by rw [oc_cl hz]; exact hw) (fun e he hei => hr e he ?_)
      have : e / 2 ≠ i := fun q => by have := he.2; rw [q, hz] at this; cases this
      omega
    | false =>
      have hz1 : sz (sg Ss i).2 = 0 := by rw [hz]; rfl
      have o1 : eo Ss (2 * i) := ⟨by omega, by rw [show 2 * i / 2 = i by omega]; exact hz⟩
      have o2 : eo Ss (2 * i + 1) := ⟨by omega, by rw [show (2 * i + 1) / 2 = i by omega]; exact hz⟩
      have e1 : ep Ss (2 * i) = pg (sg Ss i).1 0 ∧ eb Ss (2 * i) = pg (sg Ss i).1 1 ∧ ez Ss (2 * i) = (sg Ss i).1.length ∧ ke Ss (2 * i) = 2 * oc Ss i := by
        unfold ep eb ez ke eI
        rw [show 2 * i / 2 = i by omega, if_pos (by omega), if_pos (by omega)]
        exact ⟨rfl, rfl, rfl, by omega⟩
      have e2 : ep Ss (2 * i + 1) = pg (sg Ss i).1 ((sg Ss i).1.length - 1) ∧ eb Ss (2 * i + 1) = pg (sg Ss i).1 ((sg Ss i).1.length - 2) ∧ ez Ss (2 * i + 1) = (sg Ss i).1.length ∧ ke Ss (2 * i + 1) = 2 * oc Ss i + 1 := by
        unfold ep eb ez ke eI
        rw [show (2 * i + 1) / 2 = i by omega, if_neg (by omega), if_neg (by omega)]
        exact ⟨rfl, rfl, rfl, by omega⟩
      refine B_Welding_takeEnds_20 ?_
      simp only [wp_cons, wp_nil, List.getElem?_cons_zero, List.getElem?_cons_succ, List.set_cons_zero, List.set_cons_succ, s_astore_n3, pA_r, pA_n, s1_0, s1_s, kx_i, kx_r, kx_s, kx_n, kx_l, kx_0, s_aload_n3, ldA_r, ldA_n, ldA_s, s_ifnull, true_and, and_true, Nat.le_refl, true_implies, forall_const, not_false_eq_true, false_implies, not_true_eq_false, reduceCtorEq, tl_s, tl_n, rf_s, List.cons_append, List.nil_append, true_or, or_true, a2, k1.1, q0]
      refine B_Welding_takeEnds_25 ?_
      simp only [wp_cons, wp_nil, List.getElem?_cons_zero, List.getElem?_cons_succ, List.set_cons_zero, List.set_cons_succ, s_aload_n3, ldA_r, ldA_n, ldA_s, s_getfield, pR_s, ob_s, gt_s, s_ifCond_ne, p1_s, true_and, and_true, Nat.le_refl, true_implies, forall_const, not_false_eq_true, false_implies, not_true_eq_false, reduceCtorEq, tl_s, tl_n, rf_s, List.cons_append, List.nil_append, true_or, or_true, a2, k1.1, q0]
      refine b_ne (by omega) (by omega) (fun cc => absurd cc (by omega)) (fun cc => ?_)
      refine B_Welding_takeEnds_32 ?_
      simp only [wp_cons, wp_nil, List.getElem?_cons_zero, List.getElem?_cons_succ, List.set_cons_zero, List.set_cons_succ, s_aload_n0, ldA_r, ldA_n, ldA_s, s_aload_n3, s_invokevirtual, rc_s, ob_s, List.drop_succ_cons, List.drop_zero, List.take_succ_cons, List.take_zero, List.reverse_cons, List.reverse_nil, List.nil_append, List.cons_append, List.length_cons, List.length_nil, d1, Int.reduceToNat, Nat.reduceAdd, Nat.reduceLeDiff, true_and, and_true, Nat.le_refl, true_implies, forall_const, not_false_eq_true, false_implies, not_true_eq_false, reduceCtorEq, tl_s, tl_n, rf_s, true_or, or_true, a2, k1.1, q0]
      refine Stroke_first_c (by omega) st (by omega) ?_
      refine B_Welding_takeEnds_37 ?_
      simp only [wp_cons, wp_nil, List.getElem?_cons_zero, List.getElem?_cons_succ, List.set_cons_zero, List.set_cons_succ, s_aload_n3, ldA_r, ldA_n, ldA_s, s_iconst, s_invokevirtual, rc_s, ob_s, List.drop_succ_cons, List.drop_zero, List.take_succ_cons, List.take_zero, List.reverse_cons, List.reverse_nil, List.nil_append, List.cons_append, List.length_cons, List.length_nil, d1, Int.reduceToNat, Nat.reduceAdd, Nat.reduceLeDiff, true_and, and_true, Nat.le_refl, true_implies, forall_const, not_false_eq_true, false_implies, not_true_eq_false, reduceCtorEq, tl_s, tl_n, rf_s, true_or, or_true, a2, k1.1, q0]
      refine Stroke_at_c (j := 1) st (by omega) ?_
      refine B_Welding_takeEnds_42 ?_
      simp only [wp_cons, wp_nil, List.getElem?_cons_zero, List.getElem?_cons_succ, List.set_cons_zero, List.set_cons_succ, s_aload_n3, ldA_r, ldA_n, ldA_s, s_getfield, pR_s, ob_s, gt_s, s_invokevirtual, rc_s, List.drop_succ_cons, List.drop_zero, List.take_succ_cons, List.take_zero, List.reverse_cons, List.reverse_nil, List.nil_append, List.cons_append, List.length_cons, List.length_nil, d1, Int.reduceToNat, Nat.reduceAdd, Nat.reduceLeDiff, true_and, and_true, Nat.le_refl, true_implies, forall_const, not_false_eq_true, false_implies, not_true_eq_false, reduceCtorEq, tl_s, tl_n, rf_s, true_or, or_true, a2, k1.1, q0]
      refine Wld_add_c (by omega) hw (by omega) (w3 0 (by omega)) (fun h1 c1 wl1 => ?_)
      have hs2 := hs1.kp c1 (by omega)
      obtain ⟨a1, a2, ⟨f, a3, a4⟩, a5, a6, a7, a8, a9⟩ := id hs2
      have st2 := a9 i (by omega)
      obtain ⟨g, k1, k2, k3⟩ := id st2
      obtain ⟨q0, q1, q2, q3, q4⟩ := id wl1
      refine B_Welding_takeEnds_49 ?_
      simp only [wp_cons, wp_nil, List.getElem?_cons_zero, List.getElem?_cons_succ, List.set_cons_zero, List.set_cons_succ, s_aload_n0, ldA_r, ldA_n, ldA_s, s_aload_n3, s_invokevirtual, rc_s, ob_s, List.drop_succ_cons, List.drop_zero, List.take_succ_cons, List.take_zero, List.reverse_cons, List.reverse_nil, List.nil_append, List.cons_append, List.length_cons, List.length_nil, d1, Int.reduceToNat, Nat.reduceAdd, Nat.reduceLeDiff, true_and, and_true, Nat.le_refl, true_implies, forall_const, not_false_eq_true, false_implies, not_true_eq_false, reduceCtorEq, tl_s, tl_n, rf_s, true_or, or_true, a2, k1.1, q0]
      refine Stroke_last_c (by omega) st2 (by omega) ?_
      refine B_Welding_takeEnds_54 ?_
      simp only [wp_cons, wp_nil, List.getElem?_cons_zero, List.getElem?_cons_succ, List.set_cons_zero, List.set_cons_succ, s_aload_n3, ldA_r, ldA_n, ldA_s, s_getfield, pR_s, ob_s, gt_s, s_iconst, s_isub, p2_s, I_sub, s_invokevirtual, rc_s, List.drop_succ_cons, List.drop_zero, List.take_succ_cons, List.take_zero, List.reverse_cons, List.reverse_nil, List.nil_append, List.cons_append, List.length_cons, List.length_nil, d1, Int.reduceToNat, Nat.reduceAdd, Nat.reduceLeDiff, true_and, and_true, Nat.le_refl, true_implies, forall_const, not_false_eq_true, false_implies, not_true_eq_false, reduceCtorEq, tl_s, tl_n, rf_s, true_or, or_true, a2, k1.1, q0]
      rw [show (((sg Ss i).1.length : Int) - 2) = (((sg Ss i).1.length - 2 : Nat) : Int) by omega]
      refine Stroke_at_c st2 (by omega) ?_
      refine B_Welding_takeEnds_64 ?_
      simp only [wp_cons, wp_nil, List.getElem?_cons_zero, List.getElem?_cons_succ, List.set_cons_zero, List.set_cons_succ, s_aload_n3, ldA_r, ldA_n, ldA_s, s_getfield, pR_s, ob_s, gt_s, s_invokevirtual, rc_s, List.drop_succ_cons, List.drop_zero, List.take_succ_cons, List.take_zero, List.reverse_cons, List.reverse_nil, List.nil_append, List.cons_append, List.length_cons, List.length_nil, d1, Int.reduceToNat, Nat.reduceAdd, Nat.reduceLeDiff, true_and, and_true, Nat.le_refl, true_implies, forall_const, not_false_eq_true, false_implies, not_true_eq_false, reduceCtorEq, tl_s, tl_n, rf_s, true_or, or_true, a2, k1.1, q0]
      refine Wld_add_c (by omega) wl1 (by omega) (w3 _ (by omega)) (fun h2 c2 wl2 => ?_)
      refine B_Welding_takeEnds_71 ?_
      simp only [wp_cons, wp_nil, List.getElem?_cons_zero, List.getElem?_cons_succ, List.set_cons_zero, List.set_cons_succ, s_iinc, ldI_s, s1_0, s1_s, kx_i, kx_r, kx_s, kx_n, kx_l, kx_0, I_add, s_goto, true_and, and_true, Nat.le_refl, true_implies, forall_const, not_false_eq_true, false_implies, not_true_eq_false, reduceCtorEq, tl_s, tl_n, rf_s, List.cons_append, List.nil_append, true_or, or_true, a2, k1.1, q0]
      refine ih (i + 1) h2 _ _ _ _ _ (by omega) ((hc.tr c1).tr c2) (by rw [oc_op hz]; exact wl2) (fun e he hei => ?_)
      by_cases c : e / 2 = i
      · rcases (by omega : e = 2 * i ∨ e = 2 * i + 1) with rfl | rfl
        · rw [e1.1, e1.2.1, e1.2.2.1, e1.2.2.2]
          refine ⟨?_, ?_, ?_, ?_⟩ <;> rw [ui_n _ _ (by omega), ui_s]
        · rw [e2.1, e2.2.1, e2.2.2.1, e2.2.2.2]
          refine ⟨?_, ?_, ?_, ?_⟩ <;> rw [ui_s]
      · have hlt : ke Ss e < 2 * oc Ss i := by
          have := oc_lt he.2 (show e / 2 < i by omega)
          unfold ke
          omega
        rw [ui_n _ _ (by omega), ui_n _ _ (by omega), ui_n _ _ (by omega), ui_n _ _ (by omega), ui_n _ _ (by omega), ui_n _ _ (by omega), ui_n _ _ (by omega), ui_n _ _ (by omega)]
        exact hr e he (by omega)
theorem Wld_take_c {d a dd : Nat} (d3 : 3 ≤ d) {Ss : List Stk} {pn : Stk} (w : wfD Ss) {h : g_H} {Q : g_Po} (hd : a + 5 ≤ dd ∨ dd + 24 ≤ a) (hs : drL h dd Ss pn) (hx : wlX h a) (hQ : ∀ h' X Y B Z, chg a (a + 5) h h' → wl h' a X Y B Z (2 * oc Ss Ss.length) → wr Ss X Y B Z (2 * oc Ss Ss.length) → Q none h') : Call Welding_takeEnds d 0 0 [.ref a, .ref dd] h Q := by
  obtain ⟨X, Y, B, Z, n, q0, q1, q2, q3, q4⟩ := hx
  obtain ⟨σ, hs⟩ := hs
  refine Call.intro (by rfl) (Nat.le_of_ble_eq_true rfl) ?_
  refine G.eqL (L := [some (.ref _), some (.ref _), none, none]) rfl ?_
  refine B_Welding_takeEnds_0 ?_
  simp only [wp_cons, wp_nil, List.getElem?_cons_zero, List.getElem?_cons_succ, List.set_cons_zero, List.set_cons_succ, s_aload_n0, ldA_r, ldA_n, ldA_s, s_iconst, s_putfield, pv_i, pv_z, pv_r, pv_f, ob_s, z_01, z_11, List.length_cons, List.length_nil, s_istore_n2, p1_s, s1_0, s1_s, kx_i, kx_r, kx_s, kx_n, kx_l, kx_0, true_and, and_true, Nat.le_refl, true_implies, forall_const, not_false_eq_true, false_implies, not_true_eq_false, reduceCtorEq, tl_s, tl_n, rf_s, List.cons_append, List.nil_append, true_or, or_true, q0, Nat.reduceLT, Nat.reduceAdd]
  refine Wld_take_l (by omega) w hd hs hQ Ss.length 0 _ X Y B Z _ (by omega) (chg.set _ (by omega)) ⟨?_, ?_, ?_, ?_, ?_⟩ (fun e he hei => absurd hei (by omega))
  · rw [h_at _ q0]; rfl
  · rw [h_ne _ (by omega), q1]
  · rw [h_ne _ (by omega), q2]
  · rw [h_ne _ (by omega), q3]
  · rw [h_ne _ (by omega), q4]
def rD (X Y : Nat → Int) (i j : Nat) : Int := (X i - X j) * (X i - X j) + (Y i - Y j) * (Y i - Y j)
def rM (X Y : Nat → Int) (i j : Nat) : Int := 1000 * ((X i + X j) / 2) + (Y i + Y j) / 2
def rm (X Y B Z : Nat → Int) (i j : Nat) : Prop := (i / 2 ≠ j / 2 ∨ 4 ≤ Z i) ∧ rM X Y i j ≠ B i ∧ rM X Y i j ≠ B j
def rv (X Y B Z : Nat → Int) (r : Int) (i j : Nat) : Prop := 0 < rD X Y i j ∧ rD X Y i j ≤ r ∧ rm X Y B Z i j
theorem Wld_may_c {d a n i j : Nat} (d1 : 1 ≤ d) {X Y B Z : Nat → Int} {h : g_H} {Q : g_Po} (ha : wl h a X Y B Z n) (hb : wrB X Y B Z n) (hi : i < n) (hj : j < n) (hT : rm X Y B Z i j → Q (some (.int (I 1))) h) (hF : ¬ rm X Y B Z i j → Q (some (.int (I 0))) h) : Call Welding_mayWeld d 0 0 [.ref a, .int (I (i : Int)), .int (I (j : Int))] h Q := by
  obtain ⟨q0, q1, q2, q3, q4⟩ := id ha
  obtain ⟨b0, b1⟩ := hb
  have bi := b1 i hi
  have bj := b1 j hj
  have e1 : I (i : Int) >>> (I 1 &&& 31) = I ((i / 2 : Nat) : Int) := by rw [I_shr1 (by omega) (by omega)]; rfl
  have e2 : I (j : Int) >>> (I 1 &&& 31) = I ((j / 2 : Nat) : Int) := by rw [I_shr1 (by omega) (by omega)]; rfl
  have key : ((i / 2 ≠ j / 2) ∨ 4 ≤ Z i) → G Welding_mayWeld d 0 0 0 0 21 [some (.ref a), some (.int (I (i : Int))), some (.int (I (j : Int))), none] [] h Q := by
    intro hk
    refine B_Welding_mayWeld_21 ?_
    simp only [wp_cons, wp_nil, List.getElem?_cons_zero, List.getElem?_cons_succ, List.set_cons_zero, List.set_cons_succ, s_aload_n0, ldA_r, ldA_n, ldA_s, s_getfield, pR_s, ob_s, gt_s, s_iload_n1, ldI_s, s_iaload, iR_s, ia_s, s_iload_n2, s_invokestatic, rc_s, List.drop_succ_cons, List.drop_zero, List.take_succ_cons, List.take_zero, List.reverse_cons, List.reverse_nil, List.nil_append, List.cons_append, List.length_cons, List.length_nil, Nat.reduceEqDiff, eq_self, reduceIte, p1_s, p2_s, l1_s, d1, Int.reduceToNat, Nat.reduceAdd, Nat.reduceLeDiff, true_and, and_true, Nat.le_refl, true_implies, forall_const, not_false_eq_true, false_implies, not_true_eq_false, reduceCtorEq, tl_s, tl_n, rf_s, true_or, or_true, q0, q1, q2, q3, q4, e1, e2, ex_ix (i := i) (n := 20) (by omega), ex_ix (i := j) (n := 20) (by omega)]
    refine Wld_mid_c bi.1 bj.1 ?_
    refine B_Welding_mayWeld_36 ?_
    simp only [wp_cons, wp_nil, List.getElem?_cons_zero, List.getElem?_cons_succ, List.set_cons_zero, List.set_cons_succ, s_aload_n0, ldA_r, ldA_n, ldA_s, s_getfield, pR_s, ob_s, gt_s, s_iload_n1, ldI_s, s_iaload, iR_s, ia_s, s_iload_n2, s_invokestatic, rc_s, List.drop_succ_cons, List.drop_zero, List.take_succ_cons, List.take_zero, List.reverse_cons, List.reverse_nil, List.nil_append, List.cons_append, List.length_cons, List.length_nil, Nat.reduceEqDiff, eq_self, reduceIte, p1_s, p2_s, l1_s, d1, Int.reduceToNat, Nat.reduceAdd, Nat.reduceLeDiff, true_and, and_true, Nat.le_refl, true_implies, forall_const, not_false_eq_true, false_implies, not_true_eq_false, reduceCtorEq, tl_s, tl_n, rf_s, true_or, or_true, q0, q1, q2, q3, q4, e1, e2, ex_ix (i := i) (n := 20) (by omega), ex_ix (i := j) (n := 20) (by omega)]
    refine Wld_mid_c bi.2.1 bj.2.1 ?_
    refine B_Welding_mayWeld_51 ?_
    simp only [wp_cons, wp_nil, List.getElem?_cons_zero, List.getElem?_cons_succ, List.set_cons_zero, List.set_cons_succ, s_invokestatic, rc_s, ob_s, List.drop_succ_cons, List.drop_zero, List.take_succ_cons, List.take_zero, List.reverse_cons, List.reverse_nil, List.nil_append, List.cons_append, List.length_cons, List.length_nil, Nat.reduceEqDiff, eq_self, reduceIte, p1_s, p2_s, l1_s, d1, Int.reduceToNat, Nat.reduceAdd, Nat.reduceLeDiff, true_and, and_true, Nat.le_refl, true_implies, forall_const, not_false_eq_true, false_implies, not_true_eq_false, reduceCtorEq, tl_s, tl_n, rf_s, true_or, or_true, q0, q1, q2, q3, q4, e1, e2, ex_ix (i := i) (n := 20) (by omega), ex_ix (i := j) (n := 20) (by omega)]
    refine Plane_told_c ?_
    have em : 1000 * ((X i + X j) / 2) + (Y i + Y j) / 2 = rM X Y i j := rfl
    have bm : pt (rM X Y i j) := by unfold rM; omega
    rw [em]
    refine B_Welding_mayWeld_54 ?_
    simp only [wp_cons, wp_nil, List.getElem?_cons_zero, List.getElem?_cons_succ, List.set_cons_zero, List.set_cons_succ, s_istore_n3, p1_s, s1_0, s1_s, kx_i, kx_r, kx_s, kx_n, kx_l, kx_0, s_iload_n3, ldI_s, s_aload_n0, ldA_r, ldA_n, ldA_s, s_getfield, pR_s, ob_s, gt_s, s_iload_n1, s_iaload, iR_s, ia_s, s_if_icmp_eq, p2_s, true_and, and_true, Nat.le_refl, true_implies, forall_const, not_false_eq_true, false_implies, not_true_eq_false, reduceCtorEq, tl_s, tl_n, rf_s, List.cons_append, List.nil_append, true_or, or_true, q0, q1, q2, q3, q4, e1, e2, ex_ix (i := i) (n := 20) (by omega), ex_ix (i := j) (n := 20) (by omega)]
    refine b_eq (by omega) (by omega) (fun c => ?_) (fun c => ?_)
    · refine B_Welding_mayWeld_79 ?_
      simp only [wp_cons, wp_nil, List.getElem?_cons_zero, List.getElem?_cons_succ, List.set_cons_zero, List.set_cons_succ, s_iconst, true_and, and_true, Nat.le_refl, true_implies, forall_const, not_false_eq_true, false_implies, not_true_eq_false, reduceCtorEq, tl_s, tl_n, rf_s, List.cons_append, List.nil_append, true_or, or_true, q0, q1, q2, q3, q4, e1, e2, ex_ix (i := i) (n := 20) (by omega), ex_ix (i := j) (n := 20) (by omega)]
      refine B_Welding_mayWeld_80 ?_
      simp only [wp_cons, wp_nil, List.getElem?_cons_zero, List.getElem?_cons_succ, List.set_cons_zero, List.set_cons_succ, s_ireturn, p1_s, rI_i, rI_z, rI_c, z_01, z_11, rt_Welding_mayWeld, true_and, and_true, Nat.le_refl, true_implies, forall_const, not_false_eq_true, false_implies, not_true_eq_false, reduceCtorEq, tl_s, tl_n, rf_s, List.cons_append, List.nil_append, true_or, or_true, q0, q1, q2, q3, q4, e1, e2, ex_ix (i := i) (n := 20) (by omega), ex_ix (i := j) (n := 20) (by omega)]
      exact hF (fun q => q.2.1 c)
    · refine B_Welding_mayWeld_65 ?_
      simp only [wp_cons, wp_nil, List.getElem?_cons_zero, List.getElem?_cons_succ, List.set_cons_zero, List.set_cons_succ, s_iload_n3, ldI_s, s_aload_n0, ldA_r, ldA_n, ldA_s, s_getfield, pR_s, ob_s, gt_s, s_iload_n2, s_iaload, iR_s, ia_s, s_if_icmp_eq, p2_s, true_and, and_true, Nat.le_refl, true_implies, forall_const, not_false_eq_true, false_implies, not_true_eq_false, reduceCtorEq, tl_s, tl_n, rf_s, List.cons_append, List.nil_append, true_or, or_true, q0, q1, q2, q3, q4, e1, e2, ex_ix (i := i) (n := 20) (by omega), ex_ix (i := j) (n := 20) (by omega)]
      refine b_eq (by omega) (by omega) (fun c => ?_) (fun c => ?_)
      · refine B_Welding_mayWeld_79 ?_
        simp only [wp_cons, wp_nil, List.getElem?_cons_zero, List.getElem?_cons_succ, List.set_cons_zero, List.set_cons_succ, s_iconst, true_and, and_true, Nat.le_refl, true_implies, forall_const, not_false_eq_true, false_implies, not_true_eq_false, reduceCtorEq, tl_s, tl_n, rf_s, List.cons_append, List.nil_append, true_or, or_true, q0, q1, q2, q3, q4, e1, e2, ex_ix (i := i) (n := 20) (by omega), ex_ix (i := j) (n := 20) (by omega)]
        refine B_Welding_mayWeld_80 ?_
        simp only [wp_cons, wp_nil, List.getElem?_cons_zero, List.getElem?_cons_succ, List.set_cons_zero, List.set_cons_succ, s_ireturn, p1_s, rI_i, rI_z, rI_c, z_01, z_11, rt_Welding_mayWeld, true_and, and_true, Nat.le_refl, true_implies, forall_const, not_false_eq_true, false_implies, not_true_eq_false, reduceCtorEq, tl_s, tl_n, rf_s, List.cons_append, List.nil_append, true_or, or_true, q0, q1, q2, q3, q4, e1, e2, ex_ix (i := i) (n := 20) (by omega), ex_ix (i := j) (n := 20) (by omega)]
        exact hF (fun q => q.2.2 c)
      · refine B_Welding_mayWeld_75 ?_
        simp only [wp_cons, wp_nil, List.getElem?_cons_zero, List.getElem?_cons_succ, List.set_cons_zero, List.set_cons_succ, s_iconst, s_goto, true_and, and_true, Nat.le_refl, true_implies, forall_const, not_false_eq_true, false_implies, not_true_eq_false, reduceCtorEq, tl_s, tl_n, rf_s, List.cons_append, List.nil_append, true_or, or_true, q0, q1, q2, q3, q4, e1, e2, ex_ix (i := i) (n := 20) (by omega), ex_ix (i := j) (n := 20) (by omega)]
        refine B_Welding_mayWeld_80 ?_
        simp only [wp_cons, wp_nil, List.getElem?_cons_zero, List.getElem?_cons_succ, List.set_cons_zero, List.set_cons_succ, s_ireturn, p1_s, rI_i, rI_z, rI_c, z_01, z_11, rt_Welding_mayWeld, true_and, and_true, Nat.le_refl, true_implies, forall_const, not_false_eq_true, false_implies, not_true_eq_false, reduceCtorEq, tl_s, tl_n, rf_s, List.cons_append, List.nil_append, true_or, or_true, q0, q1, q2, q3, q4, e1, e2, ex_ix (i := i) (n := 20) (by omega), ex_ix (i := j) (n := 20) (by omega)]
        rename_i c1 
        exact hT ⟨hk, c1, c⟩
  refine Call.intro (by rfl) (Nat.le_of_ble_eq_true rfl) ?_
  refine G.eqL (L := [some (.ref _), some (.int _), some (.int _), none]) rfl ?_
  refine B_Welding_mayWeld_0 ?_
  simp only [wp_cons, wp_nil, List.getElem?_cons_zero, List.getElem?_cons_succ, List.set_cons_zero, List.set_cons_succ, s_iload_n1, ldI_s, s_iconst, s_ishr, p2_s, s_iload_n2, s_if_icmp_ne, true_and, and_true, Nat.le_refl, true_implies, forall_const, not_false_eq_true, false_implies, not_true_eq_false, reduceCtorEq, tl_s, tl_n, rf_s, List.cons_append, List.nil_append, true_or, or_true, q0, q1, q2, q3, q4, e1, e2, ex_ix (i := i) (n := 20) (by omega), ex_ix (i := j) (n := 20) (by omega)]
  refine b_ne (by omega) (by omega) (fun c => ?_) (fun c => ?_)
  · exact key (Or.inl (by omega))
  · refine B_Welding_mayWeld_9 ?_
    simp only [wp_cons, wp_nil, List.getElem?_cons_zero, List.getElem?_cons_succ, List.set_cons_zero, List.set_cons_succ, s_aload_n0, ldA_r, ldA_n, ldA_s, s_getfield, pR_s, ob_s, gt_s, s_iload_n1, ldI_s, s_iaload, iR_s, ia_s, s_iconst, s_if_icmp_ge, p2_s, true_and, and_true, Nat.le_refl, true_implies, forall_const, not_false_eq_true, false_implies, not_true_eq_false, reduceCtorEq, tl_s, tl_n, rf_s, List.cons_append, List.nil_append, true_or, or_true, q0, q1, q2, q3, q4, e1, e2, ex_ix (i := i) (n := 20) (by omega), ex_ix (i := j) (n := 20) (by omega)]
    refine b_le (by omega) (by omega) (fun c => ?_) (fun c => ?_)
    · exact key (Or.inr c)
    · refine B_Welding_mayWeld_19 ?_
      simp only [wp_cons, wp_nil, List.getElem?_cons_zero, List.getElem?_cons_succ, List.set_cons_zero, List.set_cons_succ, s_iconst, s_ireturn, p1_s, rI_i, rI_z, rI_c, z_01, z_11, rt_Welding_mayWeld, true_and, and_true, Nat.le_refl, true_implies, forall_const, not_false_eq_true, false_implies, not_true_eq_false, reduceCtorEq, tl_s, tl_n, rf_s, List.cons_append, List.nil_append, true_or, or_true, q0, q1, q2, q3, q4, e1, e2, ex_ix (i := i) (n := 20) (by omega), ex_ix (i := j) (n := 20) (by omega)]
      exact hF (fun q => by have := q.1; omega)
def xo (k : Nat) : Nat := if k % 2 = 0 then k + 1 else k - 1
theorem I_xo : ∀ k : Nat, k < 20 → I (k : Int) ^^^ I 1 = I ((xo k : Nat) : Int) := by decide +kernel
theorem Wld_put_c {d a n k : Nat} (d1 : 1 ≤ d) {x y : Int} {X Y B Z : Nat → Int} {h : g_H} {Q : g_Po} (ha : wl h a X Y B Z n) (hk : k < 20) (hz : i32 (Z k)) (hQ : ∀ h', chg a (a + 5) h h' → wl h' a (ui X k x) (ui Y k y) (if Z k = 2 then ui B (xo k) (1000 * x + y) else B) Z n → Q none h') : Call Welding_putEnd d 0 0 [.ref a, .int (I (k : Int)), .int (I x), .int (I y)] h Q := by
  obtain ⟨q0, q1, q2, q3, q4⟩ := id ha
  have c0 : ∀ v, chg a (a + 5) h (h.set (a + 1) v) := fun v => chg.set _ (by omega)
  have k1 : ∀ h v, (List.set h (a + 1) v : g_H)[a]? = h[a]? := hs_ne (by omega)
  have k2 : ∀ h v, (List.set h (a + 1) v : g_H)[a + 2]? = h[a + 2]? := hs_ne (by omega)
  have k3 : ∀ h v, (List.set h (a + 1) v : g_H)[a + 3]? = h[a + 3]? := hs_ne (by omega)
  have k4 : ∀ h v, (List.set h (a + 1) v : g_H)[a + 4]? = h[a + 4]? := hs_ne (by omega)
  have k5 : ∀ h v, (List.set h (a + 2) v : g_H)[a]? = h[a]? := hs_ne (by omega)
  have k6 : ∀ h v, (List.set h (a + 2) v : g_H)[a + 3]? = h[a + 3]? := hs_ne (by omega)
  have k7 : ∀ h v, (List.set h (a + 2) v : g_H)[a + 4]? = h[a + 4]? := hs_ne (by omega)
  have hxo : xo k < 20 := by unfold xo; split <;> omega
  have e1 := I_xo k hk
  refine Call.intro (by rfl) (Nat.le_of_ble_eq_true rfl) ?_
  refine G.eqL (L := [some (.ref _), some (.int _), some (.int _), some (.int _), none]) rfl ?_
  refine B_Welding_putEnd_0 ?_
  simp only [wp_cons, wp_nil, List.getElem?_cons_zero, List.getElem?_cons_succ, List.set_cons_zero, List.set_cons_succ, s_iload_n1, ldI_s, s_ifCond_lt, p1_s, true_and, and_true, Nat.le_refl, true_implies, forall_const, not_false_eq_true, false_implies, not_true_eq_false, reduceCtorEq, tl_s, tl_n, rf_s, List.cons_append, List.nil_append, true_or, or_true, q0, q1, q2, q3, q4, e1, k1, k2, k3, k4, k5, k6, k7, ex_ix (i := k) (n := 20) (by omega), ex_ix (i := xo k) (n := 20) (by omega), upd_ui]
  refine b_lt (by omega) (by omega) (fun cc => absurd cc (by omega)) (fun cc => ?_)
  refine B_Welding_putEnd_4 ?_
  simp only [wp_cons, wp_nil, List.getElem?_cons_zero, List.getElem?_cons_succ, List.set_cons_zero, List.set_cons_succ, s_iload_n1, ldI_s, s_bipush, s_if_icmp_lt, p2_s, true_and, and_true, Nat.le_refl, true_implies, forall_const, not_false_eq_true, false_implies, not_true_eq_false, reduceCtorEq, tl_s, tl_n, rf_s, List.cons_append, List.nil_append, true_or, or_true, q0, q1, q2, q3, q4, e1, k1, k2, k3, k4, k5, k6, k7, ex_ix (i := k) (n := 20) (by omega), ex_ix (i := xo k) (n := 20) (by omega), upd_ui]
  refine b_lt (by omega) (by omega) (fun cc => ?_) (fun cc => absurd cc (by omega))
  refine B_Welding_putEnd_11 ?_
  simp only [wp_cons, wp_nil, List.getElem?_cons_zero, List.getElem?_cons_succ, List.set_cons_zero, List.set_cons_succ, s_aload_n0, ldA_r, ldA_n, ldA_s, s_getfield, pR_s, ob_s, gt_s, s_iload_n1, ldI_s, s_iload_n2, s_iastore, iiR_s, ia_s, s_iload_n3, s_iconst, s_ixor, p2_s, s_istore, p1_s, s1_0, s1_s, kx_i, kx_r, kx_s, kx_n, kx_l, kx_0, s_iaload, iR_s, s_if_icmp_ne, true_and, and_true, Nat.le_refl, true_implies, forall_const, not_false_eq_true, false_implies, not_true_eq_false, reduceCtorEq, tl_s, tl_n, rf_s, List.cons_append, List.nil_append, true_or, or_true, q0, q1, q2, q3, q4, e1, k1, k2, k3, k4, k5, k6, k7, ex_ix (i := k) (n := 20) (by omega), ex_ix (i := xo k) (n := 20) (by omega), upd_ui]
  refine b_ne (by omega) (by omega) (fun c => ?_) (fun c => ?_)
  · rw [if_neg c] at hQ
    refine B_Welding_putEnd_59 ?_
    simp only [wp_cons, wp_nil, List.getElem?_cons_zero, List.getElem?_cons_succ, List.set_cons_zero, List.set_cons_succ, s_return_, rt_Welding_putEnd, true_and, and_true, Nat.le_refl, true_implies, forall_const, not_false_eq_true, false_implies, not_true_eq_false, reduceCtorEq, tl_s, tl_n, rf_s, List.cons_append, List.nil_append, true_or, or_true, q0, q1, q2, q3, q4, e1, k1, k2, k3, k4, k5, k6, k7, ex_ix (i := k) (n := 20) (by omega), ex_ix (i := xo k) (n := 20) (by omega), upd_ui]
    refine hQ _ ((c0 _).tr (chg.set _ (by omega))) ⟨?_, ?_, ?_, ?_, ?_⟩
    · rw [k5, k1, q0]
    · rw [h_ne _ (by omega), h_at _ q1]
    · rw [h_at _ (by rw [k2, q2])]
    · rw [k6, k3, q3]
    · rw [k7, k4, q4]
  · rw [if_pos c] at hQ
    refine B_Welding_putEnd_40 ?_
    simp only [wp_cons, wp_nil, List.getElem?_cons_zero, List.getElem?_cons_succ, List.set_cons_zero, List.set_cons_succ, s_iload, ldI_s, s_bipush, s_if_icmp_ge, p2_s, true_and, and_true, Nat.le_refl, true_implies, forall_const, not_false_eq_true, false_implies, not_true_eq_false, reduceCtorEq, tl_s, tl_n, rf_s, List.cons_append, List.nil_append, true_or, or_true, q0, q1, q2, q3, q4, e1, k1, k2, k3, k4, k5, k6, k7, ex_ix (i := k) (n := 20) (by omega), ex_ix (i := xo k) (n := 20) (by omega), upd_ui]
    refine b_le (by omega) (by omega) (fun cc => absurd cc (by omega)) (fun cc => ?_)
    refine B_Welding_putEnd_47 ?_
    simp only [wp_cons, wp_nil, List.getElem?_cons_zero, List.getElem?_cons_succ, List.set_cons_zero, List.set_cons_succ, s_aload_n0, ldA_r, ldA_n, ldA_s, s_getfield, pR_s, ob_s, gt_s, s_iload, ldI_s, s_iload_n2, s_iload_n3, s_invokestatic, rc_s, List.drop_succ_cons, List.drop_zero, List.take_succ_cons, List.take_zero, List.reverse_cons, List.reverse_nil, List.nil_append, List.cons_append, List.length_cons, List.length_nil, Nat.reduceEqDiff, eq_self, reduceIte, p1_s, p2_s, l1_s, d1, Int.reduceToNat, Nat.reduceAdd, Nat.reduceLeDiff, true_and, and_true, Nat.le_refl, true_implies, forall_const, not_false_eq_true, false_implies, not_true_eq_false, reduceCtorEq, tl_s, tl_n, rf_s, true_or, or_true, q0, q1, q2, q3, q4, e1, k1, k2, k3, k4, k5, k6, k7, ex_ix (i := k) (n := 20) (by omega), ex_ix (i := xo k) (n := 20) (by omega), upd_ui]
    refine Plane_told_c ?_
    refine B_Welding_putEnd_58 ?_
    simp only [wp_cons, wp_nil, List.getElem?_cons_zero, List.getElem?_cons_succ, List.set_cons_zero, List.set_cons_succ, s_iastore, iiR_s, ia_s, true_and, and_true, Nat.le_refl, true_implies, forall_const, not_false_eq_true, false_implies, not_true_eq_false, reduceCtorEq, tl_s, tl_n, rf_s, List.cons_append, List.nil_append, true_or, or_true, q0, q1, q2, q3, q4, e1, k1, k2, k3, k4, k5, k6, k7, ex_ix (i := k) (n := 20) (by omega), ex_ix (i := xo k) (n := 20) (by omega), upd_ui]
    refine B_Welding_putEnd_59 ?_
    simp only [wp_cons, wp_nil, List.getElem?_cons_zero, List.getElem?_cons_succ, List.set_cons_zero, List.set_cons_succ, s_return_, rt_Welding_putEnd, true_and, and_true, Nat.le_refl, true_implies, forall_const, not_false_eq_true, false_implies, not_true_eq_false, reduceCtorEq, tl_s, tl_n, rf_s, List.cons_append, List.nil_append, true_or, or_true, q0, q1, q2, q3, q4, e1, k1, k2, k3, k4, k5, k6, k7, ex_ix (i := k) (n := 20) (by omega), ex_ix (i := xo k) (n := 20) (by omega), upd_ui]
    refine hQ _ (((c0 _).tr (chg.set _ (by omega))).tr (chg.set _ (by omega))) ⟨?_, ?_, ?_, ?_, ?_⟩
    · rw [h_ne _ (by omega), k5, k1, q0]
    · rw [h_ne _ (by omega), h_ne _ (by omega), h_at _ q1]
    · rw [h_ne _ (by omega), h_at _ (by rw [k2, q2])]
    · rw [h_at _ (by rw [k6, k3, q3])]
    · rw [h_ne _ (by omega), k7, k4, q4]
theorem rD_bd {X Y B Z : Nat → Int} {n i j : Nat} (hb : wrB X Y B Z n) (hi : i < n) (hj : j < n) : 0 ≤ rD X Y i j ∧ rD X Y i j ≤ 1996002 := by
  have bi := hb.2 i hi
  have bj := hb.2 j hj
  have h1 := bd_mul (A := 999) (B := 999) (show -999 ≤ X i - X j ∧ X i - X j ≤ 999 by omega) (show -999 ≤ X i - X j ∧ X i - X j ≤ 999 by omega)
  have h2 := bd_mul (A := 999) (B := 999) (show -999 ≤ Y i - Y j ∧ Y i - Y j ≤ 999 by omega) (show -999 ≤ Y i - Y j ∧ Y i - Y j ≤ 999 by omega)
  have h3 := bd_sq (X i - X j)
  have h4 := bd_sq (Y i - Y j)
  unfold rD
  omega
def wky (X Y : Nat → Int) (i j : Nat) : Int := 400 * rD X Y i j + 20 * i + j
def winv (X Y B Z : Nat → Int) (r : Int) (n i j : Nat) (l : Int) (f s : Nat) : Prop := (l = r + 1 ∧ f < 20 ∧ s < 20 ∧ ∀ i' j' : Nat, i' < j' → j' < n → (i' < i ∨ (i' = i ∧ j' < j)) → ¬ rv X Y B Z r i' j') ∨ (f < s ∧ s < n ∧ (f < i ∨ (f = i ∧ s < j)) ∧ rv X Y B Z r f s ∧ l = rD X Y f s ∧ ∀ i' j' : Nat, i' < j' → j' < n → (i' < i ∨ (i' = i ∧ j' < j)) → rv X Y B Z r i' j' → wky X Y f s ≤ wky X Y i' j')
def wfin (X Y B Z : Nat → Int) (r : Int) (n : Nat) (l : Int) (f s : Nat) : Prop := (l = r + 1 ∧ f < 20 ∧ s < 20 ∧ ∀ i' j' : Nat, i' < j' → j' < n → ¬ rv X Y B Z r i' j') ∨ (f < s ∧ s < n ∧ rv X Y B Z r f s ∧ l = rD X Y f s ∧ ∀ i' j' : Nat, i' < j' → j' < n → rv X Y B Z r i' j' → wky X Y f s ≤ wky X Y i' j')
theorem winv.end {X Y B Z : Nat → Int} {r : Int} {n i j : Nat} {l : Int} {f s : Nat} (hi : n ≤ i) (h : winv X Y B Z r n i j l f s) : wfin X Y B Z r n l f s := by
  rcases h with ⟨h1, h2, h3, h4⟩ | ⟨h1, h2, h3, h4, h5, h6⟩
  · exact Or.inl ⟨h1, h2, h3, fun i' j' a b => h4 i' j' a b (Or.inl (by omega))⟩
  · exact Or.inr ⟨h1, h2, h4, h5, fun i' j' a b => h6 i' j' a b (Or.inl (by omega))⟩
theorem winv.stop {X Y B Z : Nat → Int} {r : Int} {n i j : Nat} {l : Int} {f s : Nat} (hb : wrB X Y B Z n) (hr : 1 ≤ r) (hl : l ≤ 1) (h : winv X Y B Z r n i j l f s) : wfin X Y B Z r n l f s := by
  rcases h with ⟨h1, h2, h3, h4⟩ | ⟨h1, h2, h3, h4, h5, h6⟩
  · omega
  · refine Or.inr ⟨h1, h2, h4, h5, fun i' j' a b hv => ?_⟩
    by_cases c : i' < i ∨ (i' = i ∧ j' < j)
    · exact h6 i' j' a b c hv
    · have h7 := hv.1
      have h8 := hb.1
      unfold wky
      omega
theorem winv.row {X Y B Z : Nat → Int} {r : Int} {n i : Nat} {l : Int} {f s : Nat} (h : winv X Y B Z r n i n l f s) : winv X Y B Z r n (i + 1) (i + 1 + 1) l f s := by
  rcases h with ⟨h1, h2, h3, h4⟩ | ⟨h1, h2, h3, h4, h5, h6⟩
  · exact Or.inl ⟨h1, h2, h3, fun i' j' a b _ => h4 i' j' a b (by omega)⟩
  · exact Or.inr ⟨h1, h2, by omega, h4, h5, fun i' j' a b _ => h6 i' j' a b (by omega)⟩
theorem winv.skip {X Y B Z : Nat → Int} {r : Int} {n i j : Nat} {l : Int} {f s : Nat} (hb : wrB X Y B Z n) (hij : i < j) (hj : j < n) (hv : rv X Y B Z r i j → l ≤ rD X Y i j) (h : winv X Y B Z r n i j l f s) : winv X Y B Z r n i (j + 1) l f s := by
  rcases h with ⟨h1, h2, h3, h4⟩ | ⟨h1, h2, h3, h4, h5, h6⟩
  · refine Or.inl ⟨h1, h2, h3, fun i' j' a b c q => ?_⟩
    by_cases e : i' = i ∧ j' = j
    · obtain ⟨rfl, rfl⟩ := e
      have := hv q
      have := q.2.1
      omega
    · exact h4 i' j' a b (by omega) q
  · refine Or.inr ⟨h1, h2, by omega, h4, h5, fun i' j' a b c q => ?_⟩
    by_cases e : i' = i ∧ j' = j
    · obtain ⟨rfl, rfl⟩ := e
      have := hv q
      have h8 := hb.1
      unfold wky
      omega
    · exact h6 i' j' a b (by omega) q
theorem winv.take {X Y B Z : Nat → Int} {r : Int} {n i j : Nat} {l : Int} {f s : Nat} (hb : wrB X Y B Z n) (hij : i < j) (hj : j < n) (hv : rv X Y B Z r i j) (hl : rD X Y i j < l) (h : winv X Y B Z r n i j l f s) : winv X Y B Z r n i (j + 1) (rD X Y i j) i j := by
  refine Or.inr ⟨hij, hj, by omega, hv, rfl, fun i' j' a b c q => ?_⟩
  have h8 := hb.1
  rcases h with ⟨h1, h2, h3, h4⟩ | ⟨h1, h2, h3, h4, h5, h6⟩
  · by_cases e : i' = i ∧ j' = j
    · obtain ⟨rfl, rfl⟩ := e; exact Int.le_refl _
    · exact absurd q (h4 i' j' a b (by omega))
  · by_cases e : i' = i ∧ j' = j
    · obtain ⟨rfl, rfl⟩ := e; exact Int.le_refl _
    · have := h6 i' j' a b (by omega) q
      unfold wky at this ⊢
      omega
theorem winv.bd {X Y B Z : Nat → Int} {r : Int} {n i j : Nat} {l : Int} {f s : Nat} (hb : wrB X Y B Z n) (hr : 1 ≤ r ∧ r ≤ 998001) (h : winv X Y B Z r n i j l f s) : 1 ≤ l ∧ l ≤ 998002 ∧ f < 20 ∧ s < 20 := by
  have h8 := hb.1
  rcases h with ⟨h1, h2, h3, h4⟩ | ⟨h1, h2, h3, h4, h5, h6⟩
  · omega
  · have := h4.1
    have := h4.2.1
    omega
theorem wfin.bd {X Y B Z : Nat → Int} {r : Int} {n : Nat} {l : Int} {f s : Nat} (hb : wrB X Y B Z n) (hr : 1 ≤ r ∧ r ≤ 998001) (h : wfin X Y B Z r n l f s) : 1 ≤ l ∧ l ≤ 998002 ∧ f < 20 ∧ s < 20 := by
  have h8 := hb.1
  rcases h with ⟨h1, h2, h3, h4⟩ | ⟨h1, h2, h4, h5, h6⟩
  · omega
  · have := h4.1
    have := h4.2.1
    omega
theorem Wld_scan_in {d a n : Nat} {r : Int} (d2 : 2 ≤ d) {X Y B Z : Nat → Int} {h : g_H} {Q : g_Po} (ha : wl h a X Y B Z n) (hb : wrB X Y B Z n) (hr : 1 ≤ r ∧ r ≤ 998001) (i : Nat) (hi : i < n)
    (hO : ∀ (l : Int) (f s : Nat) (x7 : Int) (x8 x9 x10 : Option Value), (winv X Y B Z r n (i + 1) (i + 1 + 1) l f s ∨ (l ≤ 1 ∧ wfin X Y B Z r n l f s)) → G Welding_weldNearest d 0 0 0 0 23 [some (.ref a), some (.int (I r)), some (.int (I (n : Int))), some (.int (I l)), some (.int (I (f : Int))), some (.int (I (s : Int))), some (.int (I ((i + 1 : Nat) : Int))), some (.int (I x7)), x8, x9, x10] [] h Q) :
    ∀ (m j : Nat) (l : Int) (f s : Nat) (x8 x9 x10 : Option Value), j + m = n → i < j → winv X Y B Z r n i j l f s →
    G Welding_weldNearest d 0 0 0 0 40 [some (.ref a), some (.int (I r)), some (.int (I (n : Int))), some (.int (I l)), some (.int (I (f : Int))), some (.int (I (s : Int))), some (.int (I (i : Int))), some (.int (I (j : Int))), x8, x9, x10] [] h Q := by
  have d1 : 1 ≤ d := by omega
  have hn := hb.1
  obtain ⟨q0, q1, q2, q3, q4⟩ := id ha
  intro m
  induction m with
  | zero =>
    intro j l f s x8 x9 x10 hj hij hv
    obtain rfl : j = n := by omega
    refine B_Welding_weldNearest_40 ?_
    simp only [wp_cons, wp_nil, List.getElem?_cons_zero, List.getElem?_cons_succ, List.set_cons_zero, List.set_cons_succ, s_iload, ldI_s, s_iload_n2, s_if_icmp_ge, p2_s, true_and, and_true, Nat.le_refl, true_implies, forall_const, not_false_eq_true, false_implies, not_true_eq_false, reduceCtorEq, tl_s, tl_n, rf_s, List.cons_append, List.nil_append, true_or, or_true, q0, q1, q2, q3, q4]
    refine b_le (by omega) (by omega) (fun cc => ?_) (fun cc => absurd cc (by omega))
    refine B_Welding_weldNearest_137 ?_
    simp only [wp_cons, wp_nil, List.getElem?_cons_zero, List.getElem?_cons_succ, List.set_cons_zero, List.set_cons_succ, s_iinc, ldI_s, s1_0, s1_s, kx_i, kx_r, kx_s, kx_n, kx_l, kx_0, I_add, s_goto, true_and, and_true, Nat.le_refl, true_implies, forall_const, not_false_eq_true, false_implies, not_true_eq_false, reduceCtorEq, tl_s, tl_n, rf_s, List.cons_append, List.nil_append, true_or, or_true, q0, q1, q2, q3, q4]
    exact hO l f s _ _ _ _ (Or.inl hv.row)
  | succ m ih =>
    intro j l f s x8 x9 x10 hj hij hv
    have hbd := winv.bd hb hr hv
    have hD := rD_bd hb hi (show j < n by omega)
    have bi := hb.2 i hi
    have bj := hb.2 j (by omega)
    by_cases c1 : l ≤ 1
    · refine B_Welding_weldNearest_40 ?_
      simp only [wp_cons, wp_nil, List.getElem?_cons_zero, List.getElem?_cons_succ, List.set_cons_zero, List.set_cons_succ, s_iload, ldI_s, s_iload_n2, s_if_icmp_ge, p2_s, true_and, and_true, Nat.le_refl, true_implies, forall_const, not_false_eq_true, false_implies, not_true_eq_false, reduceCtorEq, tl_s, tl_n, rf_s, List.cons_append, List.nil_append, true_or, or_true, q0, q1, q2, q3, q4, ex_ix (i := i) (n := 20) (by omega), ex_ix (i := j) (n := 20) (by omega)]
      refine b_le (by omega) (by omega) (fun cc => absurd cc (by omega)) (fun cc => ?_)
      refine B_Welding_weldNearest_46 ?_
      simp only [wp_cons, wp_nil, List.getElem?_cons_zero, List.getElem?_cons_succ, List.set_cons_zero, List.set_cons_succ, s_iload_n3, ldI_s, s_iconst, s_if_icmp_le, p2_s, true_and, and_true, Nat.le_refl, true_implies, forall_const, not_false_eq_true, false_implies, not_true_eq_false, reduceCtorEq, tl_s, tl_n, rf_s, List.cons_append, List.nil_append, true_or, or_true, q0, q1, q2, q3, q4, ex_ix (i := i) (n := 20) (by omega), ex_ix (i := j) (n := 20) (by omega)]
      refine b_le (by omega) (by omega) (fun cc => ?_) (fun cc => absurd cc (by omega))
      refine B_Welding_weldNearest_137 ?_
      simp only [wp_cons, wp_nil, List.getElem?_cons_zero, List.getElem?_cons_succ, List.set_cons_zero, List.set_cons_succ, s_iinc, ldI_s, s1_0, s1_s, kx_i, kx_r, kx_s, kx_n, kx_l, kx_0, I_add, s_goto, true_and, and_true, Nat.le_refl, true_implies, forall_const, not_false_eq_true, false_implies, not_true_eq_false, reduceCtorEq, tl_s, tl_n, rf_s, List.cons_append, List.nil_append, true_or, or_true, q0, q1, q2, q3, q4, ex_ix (i := i) (n := 20) (by omega), ex_ix (i := j) (n := 20) (by omega)]
      exact hO l f s _ _ _ _ (Or.inr ⟨c1, hv.stop hb hr.1 c1⟩)
    refine B_Welding_weldNearest_40 ?_
    simp only [wp_cons, wp_nil, List.getElem?_cons_zero, List.getElem?_cons_succ, List.set_cons_zero, List.set_cons_succ, s_iload, ldI_s, s_iload_n2, s_if_icmp_ge, p2_s, true_and, and_true, Nat.le_refl, true_implies, forall_const, not_false_eq_true, false_implies, not_true_eq_false, reduceCtorEq, tl_s, tl_n, rf_s, List.cons_append, List.nil_append, true_or, or_true, q0, q1, q2, q3, q4, ex_ix (i := i) (n := 20) (by omega), ex_ix (i := j) (n := 20) (by omega)]
    refine b_le (by omega) (by omega) (fun cc => absurd cc (by omega)) (fun cc => ?_)
    refine B_Welding_weldNearest_46 ?_
    simp only [wp_cons, wp_nil, List.getElem?_cons_zero, List.getElem?_cons_succ, List.set_cons_zero, List.set_cons_succ, s_iload_n3, ldI_s, s_iconst, s_if_icmp_le, p2_s, true_and, and_true, Nat.le_refl, true_implies, forall_const, not_false_eq_true, false_implies, not_true_eq_false, reduceCtorEq, tl_s, tl_n, rf_s, List.cons_append, List.nil_append, true_or, or_true, q0, q1, q2, q3, q4, ex_ix (i := i) (n := 20) (by omega), ex_ix (i := j) (n := 20) (by omega)]
    refine b_le (by omega) (by omega) (fun cc => absurd cc (by omega)) (fun cc => ?_)
    refine B_Welding_weldNearest_51 ?_
    simp only [wp_cons, wp_nil, List.getElem?_cons_zero, List.getElem?_cons_succ, List.set_cons_zero, List.set_cons_succ, s_aload_n0, ldA_r, ldA_n, ldA_s, s_getfield, pR_s, ob_s, gt_s, s_iload, ldI_s, s_iaload, iR_s, ia_s, s_isub, p2_s, I_sub, s_istore, p1_s, s1_0, s1_s, kx_i, kx_r, kx_s, kx_n, kx_l, kx_0, s_imul, I_mul, s_iadd, I_add, s_iload_n3, s_if_icmp_ge, true_and, and_true, Nat.le_refl, true_implies, forall_const, not_false_eq_true, false_implies, not_true_eq_false, reduceCtorEq, tl_s, tl_n, rf_s, List.cons_append, List.nil_append, true_or, or_true, q0, q1, q2, q3, q4, ex_ix (i := i) (n := 20) (by omega), ex_ix (i := j) (n := 20) (by omega)]
    have eD : (X i - X j) * (X i - X j) + (Y i - Y j) * (Y i - Y j) = rD X Y i j := rfl
    rw [eD]
    refine b_le (by omega) (by omega) (fun c => ?_) (fun c => ?_)
    · refine B_Welding_weldNearest_131 ?_
      simp only [wp_cons, wp_nil, List.getElem?_cons_zero, List.getElem?_cons_succ, List.set_cons_zero, List.set_cons_succ, s_iinc, ldI_s, s1_0, s1_s, kx_i, kx_r, kx_s, kx_n, kx_l, kx_0, I_add, s_goto, true_and, and_true, Nat.le_refl, true_implies, forall_const, not_false_eq_true, false_implies, not_true_eq_false, reduceCtorEq, tl_s, tl_n, rf_s, List.cons_append, List.nil_append, true_or, or_true, q0, q1, q2, q3, q4, ex_ix (i := i) (n := 20) (by omega), ex_ix (i := j) (n := 20) (by omega)]
      exact ih (j + 1) l f s _ _ _ (by omega) (by omega) (hv.skip hb hij (by omega) (fun _ => c))
    refine B_Welding_weldNearest_104 ?_
    simp only [wp_cons, wp_nil, List.getElem?_cons_zero, List.getElem?_cons_succ, List.set_cons_zero, List.set_cons_succ, s_iload, ldI_s, s_ifCond_le, p1_s, true_and, and_true, Nat.le_refl, true_implies, forall_const, not_false_eq_true, false_implies, not_true_eq_false, reduceCtorEq, tl_s, tl_n, rf_s, List.cons_append, List.nil_append, true_or, or_true, q0, q1, q2, q3, q4, ex_ix (i := i) (n := 20) (by omega), ex_ix (i := j) (n := 20) (by omega)]
    refine b_le (by omega) (by omega) (fun c => ?_) (fun c => ?_)
    · refine B_Welding_weldNearest_131 ?_
      simp only [wp_cons, wp_nil, List.getElem?_cons_zero, List.getElem?_cons_succ, List.set_cons_zero, List.set_cons_succ, s_iinc, ldI_s, s1_0, s1_s, kx_i, kx_r, kx_s, kx_n, kx_l, kx_0, I_add, s_goto, true_and, and_true, Nat.le_refl, true_implies, forall_const, not_false_eq_true, false_implies, not_true_eq_false, reduceCtorEq, tl_s, tl_n, rf_s, List.cons_append, List.nil_append, true_or, or_true, q0, q1, q2, q3, q4, ex_ix (i := i) (n := 20) (by omega), ex_ix (i := j) (n := 20) (by omega)]
      exact ih (j + 1) l f s _ _ _ (by omega) (by omega) (hv.skip hb hij (by omega) (fun q => absurd q.1 (by omega)))
    refine B_Welding_weldNearest_109 ?_
    simp only [wp_cons, wp_nil, List.getElem?_cons_zero, List.getElem?_cons_succ, List.set_cons_zero, List.set_cons_succ, s_aload_n0, ldA_r, ldA_n, ldA_s, s_iload, ldI_s, s_invokevirtual, rc_s, ob_s, List.drop_succ_cons, List.drop_zero, List.take_succ_cons, List.take_zero, List.reverse_cons, List.reverse_nil, List.nil_append, List.cons_append, List.length_cons, List.length_nil, d1, Int.reduceToNat, Nat.reduceAdd, Nat.reduceLeDiff, true_and, and_true, Nat.le_refl, true_implies, forall_const, not_false_eq_true, false_implies, not_true_eq_false, reduceCtorEq, tl_s, tl_n, rf_s, true_or, or_true, q0, q1, q2, q3, q4, ex_ix (i := i) (n := 20) (by omega), ex_ix (i := j) (n := 20) (by omega)]
    refine Wld_may_c (by omega) ha hb hi (by omega) (fun hm => ?_) (fun hm => ?_)
    · by_cases c3 : rD X Y i j ≤ r
      · refine B_Welding_weldNearest_117 ?_
        simp only [wp_cons, wp_nil, List.getElem?_cons_zero, List.getElem?_cons_succ, List.set_cons_zero, List.set_cons_succ, s_ifCond_eq, p1_s, true_and, and_true, Nat.le_refl, true_implies, forall_const, not_false_eq_true, false_implies, not_true_eq_false, reduceCtorEq, tl_s, tl_n, rf_s, List.cons_append, List.nil_append, true_or, or_true, q0, q1, q2, q3, q4, ex_ix (i := i) (n := 20) (by omega), ex_ix (i := j) (n := 20) (by omega)]
        refine b_eq (by omega) (by omega) (fun cc => absurd cc (by omega)) (fun cc => ?_)
        refine B_Welding_weldNearest_120 ?_
        simp only [wp_cons, wp_nil, List.getElem?_cons_zero, List.getElem?_cons_succ, List.set_cons_zero, List.set_cons_succ, s_iload, ldI_s, s_istore_n3, p1_s, s1_0, s1_s, kx_i, kx_r, kx_s, kx_n, kx_l, kx_0, s_istore, true_and, and_true, Nat.le_refl, true_implies, forall_const, not_false_eq_true, false_implies, not_true_eq_false, reduceCtorEq, tl_s, tl_n, rf_s, List.cons_append, List.nil_append, true_or, or_true, q0, q1, q2, q3, q4, ex_ix (i := i) (n := 20) (by omega), ex_ix (i := j) (n := 20) (by omega)]
        refine B_Welding_weldNearest_131 ?_
        simp only [wp_cons, wp_nil, List.getElem?_cons_zero, List.getElem?_cons_succ, List.set_cons_zero, List.set_cons_succ, s_iinc, ldI_s, s1_0, s1_s, kx_i, kx_r, kx_s, kx_n, kx_l, kx_0, I_add, s_goto, true_and, and_true, Nat.le_refl, true_implies, forall_const, not_false_eq_true, false_implies, not_true_eq_false, reduceCtorEq, tl_s, tl_n, rf_s, List.cons_append, List.nil_append, true_or, or_true, q0, q1, q2, q3, q4, ex_ix (i := i) (n := 20) (by omega), ex_ix (i := j) (n := 20) (by omega)]
        exact ih (j + 1) _ i j _ _ _ (by omega) (by omega) (hv.take hb hij (by omega) ⟨by omega, c3, hm⟩ (by omega))
      · exfalso
        rcases hv with ⟨h1, h2, h3, h4⟩ | ⟨h1, h2, h3, h4, h5, h6⟩
        · omega
        · have := h4.2.1; omega
    · refine B_Welding_weldNearest_117 ?_
      simp only [wp_cons, wp_nil, List.getElem?_cons_zero, List.getElem?_cons_succ, List.set_cons_zero, List.set_cons_succ, s_ifCond_eq, p1_s, true_and, and_true, Nat.le_refl, true_implies, forall_const, not_false_eq_true, false_implies, not_true_eq_false, reduceCtorEq, tl_s, tl_n, rf_s, List.cons_append, List.nil_append, true_or, or_true, q0, q1, q2, q3, q4, ex_ix (i := i) (n := 20) (by omega), ex_ix (i := j) (n := 20) (by omega)]
      refine B_Welding_weldNearest_131 ?_
      simp only [wp_cons, wp_nil, List.getElem?_cons_zero, List.getElem?_cons_succ, List.set_cons_zero, List.set_cons_succ, s_iinc, ldI_s, s1_0, s1_s, kx_i, kx_r, kx_s, kx_n, kx_l, kx_0, I_add, s_goto, true_and, and_true, Nat.le_refl, true_implies, forall_const, not_false_eq_true, false_implies, not_true_eq_false, reduceCtorEq, tl_s, tl_n, rf_s, List.cons_append, List.nil_append, true_or, or_true, q0, q1, q2, q3, q4, ex_ix (i := i) (n := 20) (by omega), ex_ix (i := j) (n := 20) (by omega)]
      exact ih (j + 1) l f s _ _ _ (by omega) (by omega) (hv.skip hb hij (by omega) (fun q => absurd q.2.2 hm))
theorem Wld_scan {d a n : Nat} {r : Int} (d2 : 2 ≤ d) {X Y B Z : Nat → Int} {h : g_H} {Q : g_Po} (ha : wl h a X Y B Z n) (hb : wrB X Y B Z n) (hr : 1 ≤ r ∧ r ≤ 998001)
    (hO : ∀ (l : Int) (f s : Nat) (x6 : Int) (x7 x8 x9 x10 : Option Value), wfin X Y B Z r n l f s → G Welding_weldNearest d 0 0 0 0 143 [some (.ref a), some (.int (I r)), some (.int (I (n : Int))), some (.int (I l)), some (.int (I (f : Int))), some (.int (I (s : Int))), some (.int (I x6)), x7, x8, x9, x10] [] h Q) :
    ∀ (m i : Nat) (l : Int) (f s : Nat) (x7 x8 x9 x10 : Option Value), i + m = n → (winv X Y B Z r n i (i + 1) l f s ∨ (l ≤ 1 ∧ wfin X Y B Z r n l f s)) →
    G Welding_weldNearest d 0 0 0 0 23 [some (.ref a), some (.int (I r)), some (.int (I (n : Int))), some (.int (I l)), some (.int (I (f : Int))), some (.int (I (s : Int))), some (.int (I (i : Int))), x7, x8, x9, x10] [] h Q := by
  have d1 : 1 ≤ d := by omega
  have hn := hb.1
  obtain ⟨q0, q1, q2, q3, q4⟩ := id ha
  intro m
  induction m with
  | zero =>
    intro i l f s x7 x8 x9 x10 hi hv
    refine B_Welding_weldNearest_23 ?_
    simp only [wp_cons, wp_nil, List.getElem?_cons_zero, List.getElem?_cons_succ, List.set_cons_zero, List.set_cons_succ, s_iload, ldI_s, s_iload_n2, s_if_icmp_ge, p2_s, true_and, and_true, Nat.le_refl, true_implies, forall_const, not_false_eq_true, false_implies, not_true_eq_false, reduceCtorEq, tl_s, tl_n, rf_s, List.cons_append, List.nil_append, true_or, or_true]
    refine b_le (by omega) (by omega) (fun cc => ?_) (fun cc => absurd cc (by omega))
    refine hO l f s _ _ _ _ _ ?_
    rcases hv with hv | hv
    · exact hv.end (by omega)
    · exact hv.2
  | succ m ih =>
    intro i l f s x7 x8 x9 x10 hi hv
    have hbd : 1 ≤ l ∧ l ≤ 998002 ∧ f < 20 ∧ s < 20 := by
      rcases hv with hv | hv
      · exact hv.bd hb hr
      · exact hv.2.bd hb hr
    refine B_Welding_weldNearest_23 ?_
    simp only [wp_cons, wp_nil, List.getElem?_cons_zero, List.getElem?_cons_succ, List.set_cons_zero, List.set_cons_succ, s_iload, ldI_s, s_iload_n2, s_if_icmp_ge, p2_s, true_and, and_true, Nat.le_refl, true_implies, forall_const, not_false_eq_true, false_implies, not_true_eq_false, reduceCtorEq, tl_s, tl_n, rf_s, List.cons_append, List.nil_append, true_or, or_true]
    refine b_le (by omega) (by omega) (fun cc => absurd cc (by omega)) (fun cc => ?_)
    refine B_Welding_weldNearest_29 ?_
    simp only [wp_cons, wp_nil, List.getElem?_cons_zero, List.getElem?_cons_succ, List.set_cons_zero, List.set_cons_succ, s_iload_n3, ldI_s, s_iconst, s_if_icmp_le, p2_s, true_and, and_true, Nat.le_refl, true_implies, forall_const, not_false_eq_true, false_implies, not_true_eq_false, reduceCtorEq, tl_s, tl_n, rf_s, List.cons_append, List.nil_append, true_or, or_true]
    refine b_le (by omega) (by omega) (fun cc => ?_) (fun cc => ?_)
    · refine hO l f s _ _ _ _ _ ?_
      rcases hv with hv | hv
      · exact hv.stop hb hr.1 cc
      · exact hv.2
    · rcases hv with hv | hv
      · refine B_Welding_weldNearest_34 ?_
        simp only [wp_cons, wp_nil, List.getElem?_cons_zero, List.getElem?_cons_succ, List.set_cons_zero, List.set_cons_succ, s_iload, ldI_s, s_iconst, s_iadd, p2_s, I_add, s_istore, p1_s, s1_0, s1_s, kx_i, kx_r, kx_s, kx_n, kx_l, kx_0, true_and, and_true, Nat.le_refl, true_implies, forall_const, not_false_eq_true, false_implies, not_true_eq_false, reduceCtorEq, tl_s, tl_n, rf_s, List.cons_append, List.nil_append, true_or, or_true]
        exact Wld_scan_in d2 ha hb hr i (by omega) (fun l f s x7 x8 x9 x10 hv => ih (i + 1) l f s _ _ _ _ (by omega) hv) (n - (i + 1)) (i + 1) l f s _ _ _ (by omega) (by omega) hv
      · omega
/-! rows and ends -/
theorem rv_wv {Ss : List Stk} {X Y B Z : Nat → Int} {n : Nat} {r : Int} (w : wfD Ss) (h : wr Ss X Y B Z n) {e f : Nat} (he : eo Ss e) (hf : eo Ss f) (hef : e < f) : rD X Y (ke Ss e) (ke Ss f) = eD Ss e f ∧ rM X Y (ke Ss e) (ke Ss f) = mid (ep Ss e) (ep Ss f) ∧ (rv X Y B Z (r * r) (ke Ss e) (ke Ss f) ↔ wv r Ss e f) := by
  obtain ⟨r1, r2, r3, r4⟩ := h.2 e he
  obtain ⟨s1, s2, s3, s4⟩ := h.2 f hf
  have e1 : rD X Y (ke Ss e) (ke Ss f) = eD Ss e f := by unfold rD eD sqd; rw [r1, r2, s1, s2]
  have e2 : rM X Y (ke Ss e) (ke Ss f) = mid (ep Ss e) (ep Ss f) := by unfold rM mid; rw [r1, r2, s1, s2]
  refine ⟨e1, e2, ?_⟩
  unfold rv rm wv
  rw [e1, e2, r3, r4, s3, Ne, ke_hf he hf]
  constructor
  · intro q
    exact ⟨hef, he, hf, q.1, q.2.1, by have := q.2.2.1; omega, q.2.2.2⟩
  · intro q
    exact ⟨q.2.2.2.1, q.2.2.2.2.1, by have := q.2.2.2.2.2.1; omega, q.2.2.2.2.2.2⟩
theorem wfin_wb {Ss : List Stk} {X Y B Z : Nat → Int} {n : Nat} {r l : Int} {f s : Nat} (w : wfD Ss) (h : wr Ss X Y B Z n) (hf : wfin X Y B Z (r * r) n l f s) : (l = r * r + 1 ∧ ¬ ∃ e f, wv r Ss e f) ∨ (l ≤ r * r ∧ ∃ e e', wb r Ss e e' ∧ f = ke Ss e ∧ s = ke Ss e' ∧ f < n ∧ s < n) := by
  rcases hf with ⟨h1, h2, h3, h4⟩ | ⟨h1, h2, h4, h5, h6⟩
  · refine Or.inl ⟨h1, fun q => ?_⟩
    obtain ⟨e, e', hv⟩ := q
    have k1 := (ke_lti hv.2.1 hv.2.2.1).mpr hv.1
    have k2 := ke_lt hv.2.2.1
    exact h4 _ _ k1 (by rw [h.1]; exact k2) ((rv_wv w h hv.2.1 hv.2.2.1 hv.1).2.2.mpr hv)
  · refine Or.inr ⟨by have := h4.2.1; omega, ?_⟩
    rw [h.1] at h2
    obtain ⟨e, he, rfl⟩ := ke_sur (show f < 2 * oc Ss Ss.length by omega)
    obtain ⟨e', he', rfl⟩ := ke_sur h2
    have hlt := (ke_lti he he').mp h1
    obtain ⟨t1, t2, t3⟩ := rv_wv (r := r) w h he he' hlt
    refine ⟨e, e', ⟨t3.mp h4, fun x y hv => ?_⟩, rfl, rfl, by rw [h.1]; omega, by rw [h.1]; exact h2⟩
    have k1 := (ke_lti hv.2.1 hv.2.2.1).mpr hv.1
    have k2 := ke_lt hv.2.2.1
    obtain ⟨u1, u2, u3⟩ := rv_wv (r := r) w h hv.2.1 hv.2.2.1 hv.1
    have h7 := h6 _ _ k1 (by rw [h.1]; exact k2) (u3.mpr hv)
    unfold wky at h7
    rw [t1, u1] at h7
    unfold wk
    have b1 := wfD_e w he
    have b2 := wfD_e w he'
    have b3 := wfD_e w hv.2.1
    have b4 := wfD_e w hv.2.2.1
    have b5 := ke_lt he
    have b6 := ke_lt hv.2.1
    have b7 := oc_le Ss Ss.length
    have b8 := w.1
    have m1 := ke_lti he hv.2.1
    have m2 := ke_lti he' hv.2.2.1
    have m3 := ke_lti hv.2.1 he
    have m4 := ke_lti hv.2.2.1 he'
    by_cases c : eD Ss e e' = eD Ss x y
    · rcases Nat.lt_trichotomy e x with q | q | q
      · omega
      · subst q
        omega
      · omega
    · omega
theorem xo_ke {Ss : List Stk} {e : Nat} : xo (ke Ss e) = 2 * oc Ss (e / 2) + (1 - e % 2) := by
  unfold xo ke
  split <;> omega
theorem wr_sete {Ss : List Stk} {X Y B Z : Nat → Int} {n : Nat} (w : wfD Ss) (h : wr Ss X Y B Z n) {e : Nat} (he : eo Ss e) {m x y : Int} (hx : x = m / 1000) (hy : y = m % 1000) (hm : 1000 * x + y = m) : wr (sete Ss e m) (ui X (ke Ss e) x) (ui Y (ke Ss e) y) (if Z (ke Ss e) = 2 then ui B (xo (ke Ss e)) (1000 * x + y) else B) Z n := by
  have ho : ∀ i, oc (sete Ss e m) i = oc Ss i := oc_cg (fun i => (sete_2 m he i).1)
  have hk : ∀ q, ke (sete Ss e m) q = ke Ss q := fun q => by unfold ke; rw [ho]
  refine ⟨by rw [h.1, ho, sete_len], fun q hq => ?_⟩
  have hq0 := (sete_eo m he q).mp hq
  obtain ⟨r1, r2, r3, r4⟩ := h.2 q hq0
  obtain ⟨s1, s2, s3, s4⟩ := h.2 e he
  rw [hk, sete_ep w m he hq0, sete_eb w m he hq0, sete_ez m he]
  have k1 := ke_lti hq0 he
  have k2 := ke_lti he hq0
  have hx2 := xo_ke (Ss := Ss) (e := e)
  refine ⟨?_, ?_, ?_, r4⟩
  · by_cases c : q = e
    · rw [c, ui_s, if_pos rfl]; exact hx
    · rw [ui_n _ _ (by omega), if_neg c]; exact r1
  · by_cases c : q = e
    · rw [c, ui_s, if_pos rfl]; exact hy
    · rw [ui_n _ _ (by omega), if_neg c]; exact r2
  · rw [hm]
    by_cases c2 : ez Ss e = 2
    · rw [if_pos (by omega)]
      by_cases c : q / 2 = e / 2 ∧ q ≠ e
      · rw [if_pos ⟨c.1, c.2, c2⟩, show xo (ke Ss e) = ke Ss q by rw [hx2]; unfold ke; rw [c.1]; omega, ui_s]
      · rw [if_neg (fun z => c ⟨z.1, z.2.1⟩), ui_n _ _ ?_]
        · exact r3
        · intro z
          apply c
          have z1 := ke_hf hq0 he
          have z2 : ke Ss q / 2 = ke Ss e / 2 := by rw [z, hx2]; unfold ke; omega
          refine ⟨z1.mp z2, fun z3 => ?_⟩
          subst z3
          rw [hx2] at z
          unfold ke at z
          omega
    · rw [if_neg (by omega), if_neg (fun z => c2 z.2.2)]; exact r3
theorem Wld_near_c {d a n : Nat} {r : Int} (d3 : 3 ≤ d) {Ss : List Stk} (w : wfD Ss) {X Y B Z : Nat → Int} {h : g_H} {Q : g_Po} (ha : wl h a X Y B Z n) (hw : wr Ss X Y B Z n) (hr : 1 ≤ r ∧ r ≤ 999)
    (hT : ∀ e f h' X' Y' B', wb r Ss e f → chg a (a + 5) h h' → wl h' a X' Y' B' Z n → wr (wap Ss e f) X' Y' B' Z n → Q (some (.int (I 1))) h') (hF : (¬ ∃ e f, wv r Ss e f) → Q (some (.int (I 0))) h) : Call Welding_weldNearest d 0 0 [.ref a, .int (I (r * r))] h Q := by
  have d1 : 1 ≤ d := by omega
  have hb := hw.b w
  have hn := hb.1
  have hrr : 1 ≤ r * r ∧ r * r ≤ 998001 := by
    have h1 := sq_mono (a := 1) (b := r) (by omega) (by omega)
    have h2 := sq_mono (a := r) (b := 999) (by omega) (by omega)
    omega
  obtain ⟨q0, q1, q2, q3, q4⟩ := id ha
  refine Call.intro (by rfl) (Nat.le_of_ble_eq_true rfl) ?_
  refine G.eqL (L := [some (.ref _), some (.int _), none, none, none, none, none, none, none, none, none]) rfl ?_
  refine B_Welding_weldNearest_0 ?_
  simp only [wp_cons, wp_nil, List.getElem?_cons_zero, List.getElem?_cons_succ, List.set_cons_zero, List.set_cons_succ, s_aload_n0, ldA_r, ldA_n, ldA_s, s_getfield, pR_s, ob_s, gt_s, s_bipush, s_invokestatic, rc_s, List.drop_succ_cons, List.drop_zero, List.take_succ_cons, List.take_zero, List.reverse_cons, List.reverse_nil, List.nil_append, List.cons_append, List.length_cons, List.length_nil, Nat.reduceEqDiff, eq_self, reduceIte, p1_s, p2_s, l1_s, d1, Int.reduceToNat, Nat.reduceAdd, Nat.reduceLeDiff, s_istore_n2, s1_0, s1_s, kx_i, kx_r, kx_s, kx_n, kx_l, kx_0, s_iload_n1, ldI_s, s_iconst, s_iadd, I_add, s_istore_n3, s_istore, true_and, and_true, Nat.le_refl, true_implies, forall_const, not_false_eq_true, false_implies, not_true_eq_false, reduceCtorEq, tl_s, tl_n, rf_s, true_or, or_true, q0, q1, q2, q3, q4, I_mn (x := (n : Int)) (y := 20) (by omega) (by omega)]
  rw [show min (n : Int) 20 = n by omega]
  refine Wld_scan (by omega) ha hb hrr (fun l f s x6 x7 x8 x9 x10 hf => ?_) n 0 (r * r + 1) 0 0 _ _ _ _ (by omega) (Or.inl (Or.inl ⟨rfl, by omega, by omega, fun i' j' _ _ q => by omega⟩))
  have hbd := hf.bd hb hrr
  rcases wfin_wb w hw hf with ⟨e1, e2⟩ | ⟨e1, e, e', e2, rfl, rfl, e5, e6⟩
  · refine B_Welding_weldNearest_143 ?_
    simp only [wp_cons, wp_nil, List.getElem?_cons_zero, List.getElem?_cons_succ, List.set_cons_zero, List.set_cons_succ, s_iload_n3, ldI_s, s_iload_n1, s_if_icmp_le, p2_s, true_and, and_true, Nat.le_refl, true_implies, forall_const, not_false_eq_true, false_implies, not_true_eq_false, reduceCtorEq, tl_s, tl_n, rf_s, List.cons_append, List.nil_append, true_or, or_true, q0, q1, q2, q3, q4]
    refine b_le (by omega) (by omega) (fun cc => absurd cc (by omega)) (fun cc => ?_)
    refine B_Welding_weldNearest_148 ?_
    simp only [wp_cons, wp_nil, List.getElem?_cons_zero, List.getElem?_cons_succ, List.set_cons_zero, List.set_cons_succ, s_iconst, s_ireturn, p1_s, rI_i, rI_z, rI_c, z_01, z_11, rt_Welding_weldNearest, true_and, and_true, Nat.le_refl, true_implies, forall_const, not_false_eq_true, false_implies, not_true_eq_false, reduceCtorEq, tl_s, tl_n, rf_s, List.cons_append, List.nil_append, true_or, or_true, q0, q1, q2, q3, q4]
    exact hF e2
  · have bf := hb.2 _ e5
    have bs := hb.2 _ e6
    have hv := e2.1
    obtain ⟨t1, t2, t3⟩ := rv_wv (r := r) w hw hv.2.1 hv.2.2.1 hv.1
    obtain ⟨w1, w2, o1⟩ := wap_ok w hv
    have p1 := wfD_e w hv.2.1
    have p2 := wfD_e w hv.2.2.1
    have mx := mid_x p1.2.1 p2.2.1
    have my := mid_y p1.2.1 p2.2.1
    obtain ⟨r1, r2, r3, r4⟩ := hw.2 e hv.2.1
    obtain ⟨s1, s2, s3, s4⟩ := hw.2 e' hv.2.2.1
    have gx : (X (ke Ss e) + X (ke Ss e')) / 2 = mid (ep Ss e) (ep Ss e') / 1000 := by rw [mx, r1, s1]
    have gy : (Y (ke Ss e) + Y (ke Ss e')) / 2 = mid (ep Ss e) (ep Ss e') % 1000 := by rw [my, r2, s2]
    refine B_Welding_weldNearest_143 ?_
    simp only [wp_cons, wp_nil, List.getElem?_cons_zero, List.getElem?_cons_succ, List.set_cons_zero, List.set_cons_succ, s_iload_n3, ldI_s, s_iload_n1, s_if_icmp_le, p2_s, true_and, and_true, Nat.le_refl, true_implies, forall_const, not_false_eq_true, false_implies, not_true_eq_false, reduceCtorEq, tl_s, tl_n, rf_s, List.cons_append, List.nil_append, true_or, or_true, q0, q1, q2, q3, q4, ex_ix (i := ke Ss e) (n := 20) (by omega), ex_ix (i := ke Ss e') (n := 20) (by omega)]
    refine b_le (by omega) (by omega) (fun cc => ?_) (fun cc => absurd cc (by omega))
    refine B_Welding_weldNearest_150 ?_
    simp only [wp_cons, wp_nil, List.getElem?_cons_zero, List.getElem?_cons_succ, List.set_cons_zero, List.set_cons_succ, s_aload_n0, ldA_r, ldA_n, ldA_s, s_getfield, pR_s, ob_s, gt_s, s_iload, ldI_s, s_iaload, iR_s, ia_s, s_invokestatic, rc_s, List.drop_succ_cons, List.drop_zero, List.take_succ_cons, List.take_zero, List.reverse_cons, List.reverse_nil, List.nil_append, List.cons_append, List.length_cons, List.length_nil, Nat.reduceEqDiff, eq_self, reduceIte, p1_s, p2_s, l1_s, d1, Int.reduceToNat, Nat.reduceAdd, Nat.reduceLeDiff, true_and, and_true, Nat.le_refl, true_implies, forall_const, not_false_eq_true, false_implies, not_true_eq_false, reduceCtorEq, tl_s, tl_n, rf_s, true_or, or_true, q0, q1, q2, q3, q4, ex_ix (i := ke Ss e) (n := 20) (by omega), ex_ix (i := ke Ss e') (n := 20) (by omega)]
    refine Wld_mid_c bf.1 bs.1 ?_
    refine B_Welding_weldNearest_167 ?_
    simp only [wp_cons, wp_nil, List.getElem?_cons_zero, List.getElem?_cons_succ, List.set_cons_zero, List.set_cons_succ, s_istore, p1_s, s1_0, s1_s, kx_i, kx_r, kx_s, kx_n, kx_l, kx_0, s_aload_n0, ldA_r, ldA_n, ldA_s, s_getfield, pR_s, ob_s, gt_s, s_iload, ldI_s, s_iaload, iR_s, ia_s, s_invokestatic, rc_s, List.drop_succ_cons, List.drop_zero, List.take_succ_cons, List.take_zero, List.reverse_cons, List.reverse_nil, List.nil_append, List.cons_append, List.length_cons, List.length_nil, Nat.reduceEqDiff, eq_self, reduceIte, p2_s, l1_s, d1, Int.reduceToNat, Nat.reduceAdd, Nat.reduceLeDiff, true_and, and_true, Nat.le_refl, true_implies, forall_const, not_false_eq_true, false_implies, not_true_eq_false, reduceCtorEq, tl_s, tl_n, rf_s, true_or, or_true, q0, q1, q2, q3, q4, ex_ix (i := ke Ss e) (n := 20) (by omega), ex_ix (i := ke Ss e') (n := 20) (by omega)]
    refine Wld_mid_c bf.2.1 bs.2.1 ?_
    rw [gx, gy]
    refine B_Welding_weldNearest_186 ?_
    simp only [wp_cons, wp_nil, List.getElem?_cons_zero, List.getElem?_cons_succ, List.set_cons_zero, List.set_cons_succ, s_istore, p1_s, s1_0, s1_s, kx_i, kx_r, kx_s, kx_n, kx_l, kx_0, s_aload_n0, ldA_r, ldA_n, ldA_s, s_iload, ldI_s, s_invokevirtual, rc_s, ob_s, List.drop_succ_cons, List.drop_zero, List.take_succ_cons, List.take_zero, List.reverse_cons, List.reverse_nil, List.nil_append, List.cons_append, List.length_cons, List.length_nil, d1, Int.reduceToNat, Nat.reduceAdd, Nat.reduceLeDiff, true_and, and_true, Nat.le_refl, true_implies, forall_const, not_false_eq_true, false_implies, not_true_eq_false, reduceCtorEq, tl_s, tl_n, rf_s, true_or, or_true, q0, q1, q2, q3, q4, ex_ix (i := ke Ss e) (n := 20) (by omega), ex_ix (i := ke Ss e') (n := 20) (by omega)]
    refine Wld_put_c (by omega) ha (by omega) (by omega) (fun h1 c1 wl1 => ?_)
    have wr1 := wr_sete w hw hv.2.1 (m := mid (ep Ss e) (ep Ss e')) rfl rfl (by omega)
    have ke1 : ke (sete Ss e (mid (ep Ss e) (ep Ss e'))) e' = ke Ss e' := by
      unfold ke
      rw [oc_cg (fun i => (sete_2 _ hv.2.1 i).1)]
    obtain ⟨q0, q1, q2, q3, q4⟩ := id wl1
    refine B_Welding_weldNearest_198 ?_
    simp only [wp_cons, wp_nil, List.getElem?_cons_zero, List.getElem?_cons_succ, List.set_cons_zero, List.set_cons_succ, s_aload_n0, ldA_r, ldA_n, ldA_s, s_iload, ldI_s, s_invokevirtual, rc_s, ob_s, List.drop_succ_cons, List.drop_zero, List.take_succ_cons, List.take_zero, List.reverse_cons, List.reverse_nil, List.nil_append, List.cons_append, List.length_cons, List.length_nil, d1, Int.reduceToNat, Nat.reduceAdd, Nat.reduceLeDiff, true_and, and_true, Nat.le_refl, true_implies, forall_const, not_false_eq_true, false_implies, not_true_eq_false, reduceCtorEq, tl_s, tl_n, rf_s, true_or, or_true, q0, q1, q2, q3, q4]
    refine Wld_put_c (by omega) wl1 (by omega) (by omega) (fun h2 c2 wl2 => ?_)
    have wr2 := wr_sete w1 wr1 o1 (m := mid (ep Ss e) (ep Ss e')) rfl rfl (by omega)
    rw [ke1] at wr2
    refine B_Welding_weldNearest_208 ?_
    simp only [wp_cons, wp_nil, List.getElem?_cons_zero, List.getElem?_cons_succ, List.set_cons_zero, List.set_cons_succ, s_iconst, s_ireturn, p1_s, rI_i, rI_z, rI_c, z_01, z_11, rt_Welding_weldNearest, true_and, and_true, Nat.le_refl, true_implies, forall_const, not_false_eq_true, false_implies, not_true_eq_false, reduceCtorEq, tl_s, tl_n, rf_s, List.cons_append, List.nil_append, true_or, or_true, q0, q1, q2, q3, q4]
    exact hT e e' h2 _ _ _ e2 (c1.tr c2) wl2 wr2
theorem Wld_give_l {d a dd n : Nat} (d2 : 2 ≤ d) {Ss Ts : List Stk} {pn : Stk} {σ : Nat → Nat} (w : wfD Ss) (wt : wfD Ts) (hsh : shp Ss Ts) {X Y B Z : Nat → Int} {h0 : g_H} {Q : g_Po} (hd : a + 5 ≤ dd ∨ dd + 24 ≤ a) (ha : wl h0 a X Y B Z n) (hw : wr Ts X Y B Z n) (hQ : ∀ h', chg dd (dd + 24) h0 h' → drL h' dd Ts pn → Q none h') :
    ∀ (m i : Nat) (h : g_H) (Us : List Stk) (x4 : Option Value), i + m = Ss.length → chg dd (dd + 24) h0 h → drw h dd σ Us pn → Us.length = Ss.length → (∀ j, j < Ss.length → sg Us j = if j < i then sg Ts j else sg Ss j) →
    G Welding_giveEnds d 0 0 0 0 4 [some (.ref a), some (.ref dd), some (.int (I ((2 * oc Ts i : Nat) : Int))), some (.int (I (i : Int))), x4] [] h Q := by
  have d1 : 1 ≤ d := by omega
  have hn := (hw.b wt).1
  have hw10 := w.1
  intro m
  induction m with
  | zero =>
    intro i h Us x4 hi hc hs hl hu
    obtain rfl : i = Ss.length := by omega
    obtain ⟨a1, a2, ⟨f, a3, a4⟩, a5, a6, a7, a8, a9⟩ := id hs
    refine B_Welding_giveEnds_4 ?_
    simp only [wp_cons, wp_nil, List.getElem?_cons_zero, List.getElem?_cons_succ, List.set_cons_zero, List.set_cons_succ, s_iload_n3, ldI_s, s_aload_n1, ldA_r, ldA_n, ldA_s, s_getfield, pR_s, ob_s, gt_s, s_if_icmp_ge, p2_s, true_and, and_true, Nat.le_refl, true_implies, forall_const, not_false_eq_true, false_implies, not_true_eq_false, reduceCtorEq, tl_s, tl_n, rf_s, List.cons_append, List.nil_append, true_or, or_true, a2]
    refine b_le (by omega) (by omega) (fun cc => ?_) (fun cc => absurd cc (by omega))
    refine B_Welding_giveEnds_101 ?_
    simp only [wp_cons, wp_nil, List.getElem?_cons_zero, List.getElem?_cons_succ, List.set_cons_zero, List.set_cons_succ, s_return_, rt_Welding_giveEnds, true_and, and_true, Nat.le_refl, true_implies, forall_const, not_false_eq_true, false_implies, not_true_eq_false, reduceCtorEq, tl_s, tl_n, rf_s, List.cons_append, List.nil_append, true_or, or_true, a2]
    refine hQ h hc ⟨σ, ?_⟩
    rw [show Ts = Us from sg_ext (by rw [hl, hsh.1]) (fun j hj => by rw [hu j (by rw [hsh.1]; exact hj), if_pos (by rw [hsh.1]; exact hj)])]
    exact hs
  | succ m ih =>
    intro i h Us x4 hi hc hs hl hu
    obtain ⟨a1, a2, ⟨f, a3, a4⟩, a5, a6, a7, a8, a9⟩ := id hs
    have hlt := hsh.1
    have st := a9 i (by omega)
    have sl := a6 i (by omega)
    have hui := hu i (by omega)
    rw [if_neg (by omega)] at hui
    rw [hui] at st
    obtain ⟨g, k1, k2, k3⟩ := id st
    obtain ⟨w1, w2, w3, w4, w5⟩ := w.2 i (by omega)
    obtain ⟨t1, t2, t3, t4⟩ := hsh.2 i (by omega)
    obtain ⟨q0, q1, q2, q3, q4⟩ := id (ha.kp hc (by omega))
    have ho := oc_le Ts i
    refine B_Welding_giveEnds_4 ?_
    simp only [wp_cons, wp_nil, List.getElem?_cons_zero, List.getElem?_cons_succ, List.set_cons_zero, List.set_cons_succ, s_iload_n3, ldI_s, s_aload_n1, ldA_r, ldA_n, ldA_s, s_getfield, pR_s, ob_s, gt_s, s_if_icmp_ge, p2_s, true_and, and_true, Nat.le_refl, true_implies, forall_const, not_false_eq_true, false_implies, not_true_eq_false, reduceCtorEq, tl_s, tl_n, rf_s, List.cons_append, List.nil_append, true_or, or_true, a2, k1.1]
    refine b_le (by omega) (by omega) (fun cc => absurd cc (by omega)) (fun cc => ?_)
    refine B_Welding_giveEnds_12 ?_
    simp only [wp_cons, wp_nil, List.getElem?_cons_zero, List.getElem?_cons_succ, List.set_cons_zero, List.set_cons_succ, s_aload_n1, ldA_r, ldA_n, ldA_s, s_iload_n3, ldI_s, s_invokevirtual, rc_s, ob_s, List.drop_succ_cons, List.drop_zero, List.take_succ_cons, List.take_zero, List.reverse_cons, List.reverse_nil, List.nil_append, List.cons_append, List.length_cons, List.length_nil, d1, Int.reduceToNat, Nat.reduceAdd, Nat.reduceLeDiff, true_and, and_true, Nat.le_refl, true_implies, forall_const, not_false_eq_true, false_implies, not_true_eq_false, reduceCtorEq, tl_s, tl_n, rf_s, true_or, or_true, a2, k1.1]
    refine Drawing_find_c hs (by omega) ?_
    cases hz : (sg Ss i).2 with
    | true =>
      have hz1 : sz (sg Ss i).2 = 1 := by rw [hz]; rfl
      refine B_Welding_giveEnds_17 ?_
      simp only [wp_cons, wp_nil, List.getElem?_cons_zero, List.getElem?_cons_succ, List.set_cons_zero, List.set_cons_succ, s_astore, pA_r, pA_n, s1_0, s1_s, kx_i, kx_r, kx_s, kx_n, kx_l, kx_0, s_aload, ldA_r, ldA_n, ldA_s, s_ifnull, true_and, and_true, Nat.le_refl, true_implies, forall_const, not_false_eq_true, false_implies, not_true_eq_false, reduceCtorEq, tl_s, tl_n, rf_s, List.cons_append, List.nil_append, true_or, or_true, a2, k1.1]
      refine B_Welding_giveEnds_24 ?_
      simp only [wp_cons, wp_nil, List.getElem?_cons_zero, List.getElem?_cons_succ, List.set_cons_zero, List.set_cons_succ, s_aload, ldA_r, ldA_n, ldA_s, s_getfield, pR_s, ob_s, gt_s, s_ifCond_ne, p1_s, true_and, and_true, Nat.le_refl, true_implies, forall_const, not_false_eq_true, false_implies, not_true_eq_false, reduceCtorEq, tl_s, tl_n, rf_s, List.cons_append, List.nil_append, true_or, or_true, a2, k1.1]
      refine b_ne (by omega) (by omega) (fun cc => ?_) (fun cc => absurd cc (by omega))
      refine B_Welding_giveEnds_95 ?_
      simp only [wp_cons, wp_nil, List.getElem?_cons_zero, List.getElem?_cons_succ, List.set_cons_zero, List.set_cons_succ, s_iinc, ldI_s, s1_0, s1_s, kx_i, kx_r, kx_s, kx_n, kx_l, kx_0, I_add, s_goto, true_and, and_true, Nat.le_refl, true_implies, forall_const, not_false_eq_true, false_implies, not_true_eq_false, reduceCtorEq, tl_s, tl_n, rf_s, List.cons_append, List.nil_append, true_or, or_true, a2, k1.1]
      refine (show 2 * oc Ts i = 2 * oc Ts (i + 1) by rw [oc_cl (t1.trans hz)]) ▸ ih (i + 1) h Us _ (by omega) hc hs hl (fun j hj => ?_)
      by_cases e : j = i
      · rw [e, if_pos (by omega), hui, t3 hz]
      · rw [hu j hj]
        by_cases e2 : j < i
        · rw [if_pos e2, if_pos (by omega)]
        · rw [if_neg e2, if_neg (by omega)]
    | false =>
      have hz1 : sz (sg Ss i).2 = 0 := by rw [hz]; rfl
      have htz : (sg Ts i).2 = false := t1.trans hz
      have o1 : eo Ts (2 * i) := ⟨by omega, by rw [show 2 * i / 2 = i by omega]; exact htz⟩
      have o2 : eo Ts (2 * i + 1) := ⟨by omega, by rw [show (2 * i + 1) / 2 = i by omega]; exact htz⟩
      obtain ⟨r1, r2, -, -⟩ := hw.2 _ o1
      obtain ⟨s1, s2, -, -⟩ := hw.2 _ o2
      have e1 : ep Ts (2 * i) = pg (sg Ts i).1 0 ∧ ke Ts (2 * i) = 2 * oc Ts i := by
        unfold ep ke eI
        rw [show 2 * i / 2 = i by omega, if_pos (by omega)]
        exact ⟨rfl, by omega⟩
      have e2 : ep Ts (2 * i + 1) = pg (sg Ts i).1 ((sg Ts i).1.length - 1) ∧ ke Ts (2 * i + 1) = 2 * oc Ts i + 1 := by
        unfold ep ke eI
        rw [show (2 * i + 1) / 2 = i by omega, if_neg (by omega)]
        exact ⟨rfl, by omega⟩
      rw [e1.2] at r1 r2
      rw [e2.2] at s1 s2
      have h20 : 2 * oc Ts i + 1 < n := by
        have := ke_lt o2
        rw [hw.1]; omega
      have p1 := (wfD_e wt o1).2.1
      have p2 := (wfD_e wt o2).2.1
      have m1 : 1000 * X (2 * oc Ts i) + Y (2 * oc Ts i) = pg (sg Ts i).1 0 := by rw [r1, r2, ← e1.1]; omega
      have m2 : 1000 * X (2 * oc Ts i + 1) + Y (2 * oc Ts i + 1) = pg (sg Ts i).1 ((sg Ts i).1.length - 1) := by rw [s1, s2, ← e2.1]; omega
      refine B_Welding_giveEnds_17 ?_
      simp only [wp_cons, wp_nil, List.getElem?_cons_zero, List.getElem?_cons_succ, List.set_cons_zero, List.set_cons_succ, s_astore, pA_r, pA_n, s1_0, s1_s, kx_i, kx_r, kx_s, kx_n, kx_l, kx_0, s_aload, ldA_r, ldA_n, ldA_s, s_ifnull, true_and, and_true, Nat.le_refl, true_implies, forall_const, not_false_eq_true, false_implies, not_true_eq_false, reduceCtorEq, tl_s, tl_n, rf_s, List.cons_append, List.nil_append, true_or, or_true, a2, k1.1, q0, q1, q2, ex_ix (i := 2 * oc Ts i) (n := 20) (by omega)]
      refine B_Welding_giveEnds_24 ?_
      simp only [wp_cons, wp_nil, List.getElem?_cons_zero, List.getElem?_cons_succ, List.set_cons_zero, List.set_cons_succ, s_aload, ldA_r, ldA_n, ldA_s, s_getfield, pR_s, ob_s, gt_s, s_ifCond_ne, p1_s, true_and, and_true, Nat.le_refl, true_implies, forall_const, not_false_eq_true, false_implies, not_true_eq_false, reduceCtorEq, tl_s, tl_n, rf_s, List.cons_append, List.nil_append, true_or, or_true, a2, k1.1, q0, q1, q2, ex_ix (i := 2 * oc Ts i) (n := 20) (by omega)]
      refine b_ne (by omega) (by omega) (fun cc => absurd cc (by omega)) (fun cc => ?_)
      refine B_Welding_giveEnds_32 ?_
      simp only [wp_cons, wp_nil, List.getElem?_cons_zero, List.getElem?_cons_succ, List.set_cons_zero, List.set_cons_succ, s_iload_n2, ldI_s, s_iconst, s_iadd, p2_s, I_add, s_bipush, s_if_icmp_ge, true_and, and_true, Nat.le_refl, true_implies, forall_const, not_false_eq_true, false_implies, not_true_eq_false, reduceCtorEq, tl_s, tl_n, rf_s, List.cons_append, List.nil_append, true_or, or_true, a2, k1.1, q0, q1, q2, ex_ix (i := 2 * oc Ts i) (n := 20) (by omega)]
      refine b_le (by omega) (by omega) (fun cc => absurd cc (by omega)) (fun cc => ?_)
      refine B_Welding_giveEnds_40 ?_
      simp only [wp_cons, wp_nil, List.getElem?_cons_zero, List.getElem?_cons_succ, List.set_cons_zero, List.set_cons_succ, s_aload, ldA_r, ldA_n, ldA_s, s_iconst, s_aload_n0, s_getfield, pR_s, ob_s, gt_s, s_iload_n2, ldI_s, s_iaload, iR_s, ia_s, s_invokestatic, rc_s, List.drop_succ_cons, List.drop_zero, List.take_succ_cons, List.take_zero, List.reverse_cons, List.reverse_nil, List.nil_append, List.cons_append, List.length_cons, List.length_nil, Nat.reduceEqDiff, eq_self, reduceIte, p1_s, p2_s, l1_s, d1, Int.reduceToNat, Nat.reduceAdd, Nat.reduceLeDiff, true_and, and_true, Nat.le_refl, true_implies, forall_const, not_false_eq_true, false_implies, not_true_eq_false, reduceCtorEq, tl_s, tl_n, rf_s, true_or, or_true, a2, k1.1, q0, q1, q2, ex_ix (i := 2 * oc Ts i) (n := 20) (by omega)]
      refine Plane_told_c ?_
      rw [m1]
      refine B_Welding_giveEnds_58 ?_
      simp only [wp_cons, wp_nil, List.getElem?_cons_zero, List.getElem?_cons_succ, List.set_cons_zero, List.set_cons_succ, s_invokevirtual, rc_s, ob_s, List.drop_succ_cons, List.drop_zero, List.take_succ_cons, List.take_zero, List.reverse_cons, List.reverse_nil, List.nil_append, List.cons_append, List.length_cons, List.length_nil, d1, Int.reduceToNat, Nat.reduceAdd, Nat.reduceLeDiff, true_and, and_true, Nat.le_refl, true_implies, forall_const, not_false_eq_true, false_implies, not_true_eq_false, reduceCtorEq, tl_s, tl_n, rf_s, true_or, or_true, a2, k1.1, q0, q1, q2, ex_ix (i := 2 * oc Ts i) (n := 20) (by omega)]
      refine Stroke_put_c (j := 0) st (by omega) (fun h1 c1 st1 => ?_)
      obtain ⟨g1, l1, l2, l3⟩ := id st1
      obtain ⟨q0, q1, q2, q3, q4⟩ := id ((ha.kp hc (by omega)).kp c1 (by omega))
      refine B_Welding_giveEnds_61 ?_
      simp only [wp_cons, wp_nil, List.getElem?_cons_zero, List.getElem?_cons_succ, List.set_cons_zero, List.set_cons_succ, s_aload, ldA_r, ldA_n, ldA_s, s_getfield, pR_s, ob_s, gt_s, s_iconst, s_isub, p2_s, I_sub, s_aload_n0, s_iload_n2, ldI_s, s_iadd, I_add, s_iaload, iR_s, ia_s, s_invokestatic, rc_s, List.drop_succ_cons, List.drop_zero, List.take_succ_cons, List.take_zero, List.reverse_cons, List.reverse_nil, List.nil_append, List.cons_append, List.length_cons, List.length_nil, Nat.reduceEqDiff, eq_self, reduceIte, p1_s, l1_s, d1, Int.reduceToNat, Nat.reduceAdd, Nat.reduceLeDiff, true_and, and_true, Nat.le_refl, true_implies, forall_const, not_false_eq_true, false_implies, not_true_eq_false, reduceCtorEq, tl_s, tl_n, rf_s, true_or, or_true, a2, l1.1, q0, q1, q2, ex_ie (x := ((2 * oc Ts i : Nat) : Int) + 1) (i := 2 * oc Ts i + 1) (n := 20) (by omega) (by omega), List.length_set]
      refine Plane_told_c ?_
      rw [m2]
      refine B_Welding_giveEnds_89 ?_
      simp only [wp_cons, wp_nil, List.getElem?_cons_zero, List.getElem?_cons_succ, List.set_cons_zero, List.set_cons_succ, s_invokevirtual, rc_s, ob_s, List.drop_succ_cons, List.drop_zero, List.take_succ_cons, List.take_zero, List.reverse_cons, List.reverse_nil, List.nil_append, List.cons_append, List.length_cons, List.length_nil, d1, Int.reduceToNat, Nat.reduceAdd, Nat.reduceLeDiff, true_and, and_true, Nat.le_refl, true_implies, forall_const, not_false_eq_true, false_implies, not_true_eq_false, reduceCtorEq, tl_s, tl_n, rf_s, true_or, or_true, a2, l1.1, q0, q1, q2, ex_ie (x := ((2 * oc Ts i : Nat) : Int) + 1) (i := 2 * oc Ts i + 1) (n := 20) (by omega) (by omega), List.length_set]
      rw [show ((sg Ss i).1.length : Int) - 1 = (((sg Ss i).1.length - 1 : Nat) : Int) by omega]
      refine Stroke_put_c st1 (by rw [List.length_set]; omega) (fun h2 c2 st2 => ?_)
      refine B_Welding_giveEnds_92 ?_
      simp only [wp_cons, wp_nil, List.getElem?_cons_zero, List.getElem?_cons_succ, List.set_cons_zero, List.set_cons_succ, s_iinc, ldI_s, s1_0, s1_s, kx_i, kx_r, kx_s, kx_n, kx_l, kx_0, I_add, true_and, and_true, Nat.le_refl, true_implies, forall_const, not_false_eq_true, false_implies, not_true_eq_false, reduceCtorEq, tl_s, tl_n, rf_s, List.cons_append, List.nil_append, true_or, or_true, a2, l1.1, q0, q1, q2, ex_ie (x := ((2 * oc Ts i : Nat) : Int) + 1) (i := 2 * oc Ts i + 1) (n := 20) (by omega) (by omega), List.length_set]
      refine B_Welding_giveEnds_95 ?_
      simp only [wp_cons, wp_nil, List.getElem?_cons_zero, List.getElem?_cons_succ, List.set_cons_zero, List.set_cons_succ, s_iinc, ldI_s, s1_0, s1_s, kx_i, kx_r, kx_s, kx_n, kx_l, kx_0, I_add, s_goto, true_and, and_true, Nat.le_refl, true_implies, forall_const, not_false_eq_true, false_implies, not_true_eq_false, reduceCtorEq, tl_s, tl_n, rf_s, List.cons_append, List.nil_append, true_or, or_true, a2, l1.1, q0, q1, q2, ex_ie (x := ((2 * oc Ts i : Nat) : Int) + 1) (i := 2 * oc Ts i + 1) (n := 20) (by omega) (by omega), List.length_set]
      rw [show ((2 * oc Ts i : Nat) : Int) + 2 = ((2 * oc Ts (i + 1) : Nat) : Int) by rw [oc_op htz]; omega]
      have c12 := c1.tr c2
      refine ih (i + 1) h2 (Us.set i ((((sg Ss i).1.set 0 (pg (sg Ts i).1 0)).set ((sg Ss i).1.length - 1) (pg (sg Ts i).1 ((sg Ts i).1.length - 1))), (sg Ss i).2)) _ (by omega) (hc.tr (c12.wd (by omega) (by omega))) (hs.up (by omega) c12 st2) (by rw [List.length_set]; exact hl) (fun j hj => ?_)
      rw [sg_set _ _ _ (by omega)]
      by_cases e : j = i
      · rw [if_pos e, if_pos (by omega), e]
        refine Prod.ext (pg_ext ?_ (fun k hk => ?_)) t1.symm
        · rw [List.length_set, List.length_set, t2]
        · rw [List.length_set, List.length_set] at hk
          rw [pg_set _ _ _ (by rw [List.length_set]; omega), pg_set _ _ _ (by omega)]
          by_cases f1 : k = (sg Ss i).1.length - 1
          · rw [if_pos f1, t2, f1]
          · rw [if_neg f1]
            by_cases f2 : k = 0
            · rw [if_pos f2, f2]
            · rw [if_neg f2, t4 k (by omega) (by omega)]
      · rw [if_neg e, hu j hj]
        by_cases e2 : j < i
        · rw [if_pos e2, if_pos (by omega)]
        · rw [if_neg e2, if_neg (by omega)]
theorem Wld_ends_l {d a dd n : Nat} {r : Int} (d4 : 4 ≤ d) (hr : 1 ≤ r ∧ r ≤ 999) {S0 S' : List Stk} {pn : Stk} (w0 : wfD S0) {h0 : g_H} {Q : g_Po} {Z : Nat → Int} {N : Nat} (hd : a + 5 ≤ dd ∨ dd + 24 ≤ a) (hs : drL h0 dd S0 pn) (hQ : ∀ h1 h', chg a (a + 5) h0 h1 → chg dd (dd + 24) h1 h' → drL h' dd S' pn → wlX h' a → Q (some (.int (I (N : Int)))) h') :
    ∀ (k t : Nat) (Ss : List Stk) (h : g_H) (X Y B : Nat → Int), wit r k Ss S' → t + k = N → (t : Int) + ms Ss ≤ 39920040 → wfD Ss → shp S0 Ss → chg a (a + 5) h0 h → wl h a X Y B Z n → wr Ss X Y B Z n →
    G Welding_weldEnds d 0 0 0 0 7 [some (.ref a), some (.ref dd), some (.int (I r)), some (.int (I (t : Int)))] [] h Q := by
  have d1 : 1 ≤ d := by omega
  intro k
  induction k with
  | zero =>
    intro t Ss h X Y B hk ht hms w hsh hc ha hw
    obtain ⟨q0, q1, q2, q3, q4⟩ := id ha
    have hm0 := ms_bd w
    refine B_Welding_weldEnds_7 ?_
    simp only [wp_cons, wp_nil, List.getElem?_cons_zero, List.getElem?_cons_succ, List.set_cons_zero, List.set_cons_succ, s_iload_n3, ldI_s, s_ldc, s_if_icmp_ge, p2_s, true_and, and_true, Nat.le_refl, true_implies, forall_const, not_false_eq_true, false_implies, not_true_eq_false, reduceCtorEq, tl_s, tl_n, rf_s, List.cons_append, List.nil_append, true_or, or_true, q0]
    refine b_le (by omega) (by omega) (fun cc => absurd cc (by omega)) (fun cc => ?_)
    refine B_Welding_weldEnds_13 ?_
    simp only [wp_cons, wp_nil, List.getElem?_cons_zero, List.getElem?_cons_succ, List.set_cons_zero, List.set_cons_succ, s_aload_n0, ldA_r, ldA_n, ldA_s, s_iload_n2, ldI_s, s_imul, p2_s, I_mul, s_invokevirtual, rc_s, ob_s, List.drop_succ_cons, List.drop_zero, List.take_succ_cons, List.take_zero, List.reverse_cons, List.reverse_nil, List.nil_append, List.cons_append, List.length_cons, List.length_nil, d1, Int.reduceToNat, Nat.reduceAdd, Nat.reduceLeDiff, true_and, and_true, Nat.le_refl, true_implies, forall_const, not_false_eq_true, false_implies, not_true_eq_false, reduceCtorEq, tl_s, tl_n, rf_s, true_or, or_true, q0]
    refine Wld_near_c (by omega) w ha hw hr (fun e f h' X' Y' B' hb _ _ _ => absurd ⟨e, f, hb.1⟩ hk.2) (fun _ => ?_)
    obtain ⟨σ, hs1⟩ := hs.kp hc (by omega)
    refine B_Welding_weldEnds_20 ?_
    simp only [wp_cons, wp_nil, List.getElem?_cons_zero, List.getElem?_cons_succ, List.set_cons_zero, List.set_cons_succ, s_ifCond_eq, p1_s, true_and, and_true, Nat.le_refl, true_implies, forall_const, not_false_eq_true, false_implies, not_true_eq_false, reduceCtorEq, tl_s, tl_n, rf_s, List.cons_append, List.nil_append, true_or, or_true, q0]
    refine B_Welding_weldEnds_29 ?_
    simp only [wp_cons, wp_nil, List.getElem?_cons_zero, List.getElem?_cons_succ, List.set_cons_zero, List.set_cons_succ, s_aload_n0, ldA_r, ldA_n, ldA_s, s_aload_n1, s_invokevirtual, rc_s, ob_s, List.drop_succ_cons, List.drop_zero, List.take_succ_cons, List.take_zero, List.reverse_cons, List.reverse_nil, List.nil_append, List.cons_append, List.length_cons, List.length_nil, d1, Int.reduceToNat, Nat.reduceAdd, Nat.reduceLeDiff, true_and, and_true, Nat.le_refl, true_implies, forall_const, not_false_eq_true, false_implies, not_true_eq_false, reduceCtorEq, tl_s, tl_n, rf_s, true_or, or_true, q0]
    refine Call.intro (by rfl) (Nat.le_of_ble_eq_true rfl) ?_
    refine G.eqL (L := [some (.ref _), some (.ref _), none, none, none]) rfl ?_
    refine B_Welding_giveEnds_0 ?_
    simp only [wp_cons, wp_nil, List.getElem?_cons_zero, List.getElem?_cons_succ, List.set_cons_zero, List.set_cons_succ, s_iconst, s_istore_n2, p1_s, s1_0, s1_s, kx_i, kx_r, kx_s, kx_n, kx_l, kx_0, s_istore_n3, true_and, and_true, Nat.le_refl, true_implies, forall_const, not_false_eq_true, false_implies, not_true_eq_false, reduceCtorEq, tl_s, tl_n, rf_s, List.cons_append, List.nil_append, true_or, or_true]
    refine Wld_give_l (by omega) w0 w hsh hd ha hw (fun h' c' hd' => ?_) S0.length 0 h S0 _ (by omega) chg.rf hs1 rfl (fun j hj => by rw [if_neg (by omega)])
    refine B_Welding_weldEnds_34 ?_
    simp only [wp_cons, wp_nil, List.getElem?_cons_zero, List.getElem?_cons_succ, List.set_cons_zero, List.set_cons_succ, s_iload_n3, ldI_s, s_ireturn, p1_s, rI_i, rI_z, rI_c, z_01, z_11, rt_Welding_weldEnds, true_and, and_true, Nat.le_refl, true_implies, forall_const, not_false_eq_true, false_implies, not_true_eq_false, reduceCtorEq, tl_s, tl_n, rf_s, List.cons_append, List.nil_append, true_or, or_true]
    rw [show t = N by omega]
    exact hQ h h' hc c' (by rw [hk.1]; exact hd') ⟨X, Y, B, Z, n, ha.kp c' (by omega)⟩
  | succ k ih =>
    intro t Ss h X Y B hk ht hms w hsh hc ha hw
    obtain ⟨q0, q1, q2, q3, q4⟩ := id ha
    obtain ⟨e, f, hb, hk⟩ := hk
    have hm0 := ms_bd w
    have hm1 := ms_wap w hb.1
    refine B_Welding_weldEnds_7 ?_
    simp only [wp_cons, wp_nil, List.getElem?_cons_zero, List.getElem?_cons_succ, List.set_cons_zero, List.set_cons_succ, s_iload_n3, ldI_s, s_ldc, s_if_icmp_ge, p2_s, true_and, and_true, Nat.le_refl, true_implies, forall_const, not_false_eq_true, false_implies, not_true_eq_false, reduceCtorEq, tl_s, tl_n, rf_s, List.cons_append, List.nil_append, true_or, or_true, q0]
    refine b_le (by omega) (by omega) (fun cc => absurd cc (by omega)) (fun cc => ?_)
    refine B_Welding_weldEnds_13 ?_
    simp only [wp_cons, wp_nil, List.getElem?_cons_zero, List.getElem?_cons_succ, List.set_cons_zero, List.set_cons_succ, s_aload_n0, ldA_r, ldA_n, ldA_s, s_iload_n2, ldI_s, s_imul, p2_s, I_mul, s_invokevirtual, rc_s, ob_s, List.drop_succ_cons, List.drop_zero, List.take_succ_cons, List.take_zero, List.reverse_cons, List.reverse_nil, List.nil_append, List.cons_append, List.length_cons, List.length_nil, d1, Int.reduceToNat, Nat.reduceAdd, Nat.reduceLeDiff, true_and, and_true, Nat.le_refl, true_implies, forall_const, not_false_eq_true, false_implies, not_true_eq_false, reduceCtorEq, tl_s, tl_n, rf_s, true_or, or_true, q0]
    refine Wld_near_c (by omega) w ha hw hr (fun e' f' h' X' Y' B' hb' c1 wl1 wr1 => ?_) (fun q => absurd ⟨e, f, hb.1⟩ q)
    obtain ⟨rfl, rfl⟩ := wb_un w hb hb'
    refine B_Welding_weldEnds_20 ?_
    simp only [wp_cons, wp_nil, List.getElem?_cons_zero, List.getElem?_cons_succ, List.set_cons_zero, List.set_cons_succ, s_ifCond_eq, p1_s, true_and, and_true, Nat.le_refl, true_implies, forall_const, not_false_eq_true, false_implies, not_true_eq_false, reduceCtorEq, tl_s, tl_n, rf_s, List.cons_append, List.nil_append, true_or, or_true, q0]
    refine b_eq (by omega) (by omega) (fun cc => absurd cc (by omega)) (fun cc => ?_)
    refine B_Welding_weldEnds_23 ?_
    simp only [wp_cons, wp_nil, List.getElem?_cons_zero, List.getElem?_cons_succ, List.set_cons_zero, List.set_cons_succ, s_iinc, ldI_s, s1_0, s1_s, kx_i, kx_r, kx_s, kx_n, kx_l, kx_0, I_add, s_goto, true_and, and_true, Nat.le_refl, true_implies, forall_const, not_false_eq_true, false_implies, not_true_eq_false, reduceCtorEq, tl_s, tl_n, rf_s, List.cons_append, List.nil_append, true_or, or_true, q0]
    exact ih (t + 1) _ h' X' Y' B' hk (by omega) (by omega) (wap_ok w hb.1).2.1 (hsh.tr (wap_shp w hb.1)) (hc.tr c1) wl1 wr1
theorem Wld_ends_c {d a dd : Nat} {r : Int} (d4 : 4 ≤ d) (hr : 1 ≤ r ∧ r ≤ 999) {Ss : List Stk} {pn : Stk} (w : wfD Ss) {h : g_H} {Q : g_Po} (hd : a + 5 ≤ dd ∨ dd + 24 ≤ a) (hs : drL h dd Ss pn) (hx : wlX h a) (hQ : ∀ h1 h', chg a (a + 5) h h1 → chg dd (dd + 24) h1 h' → drL h' dd (weldF r Ss).2 pn → wlX h' a → Q (some (.int (I ((weldF r Ss).1 : Int)))) h') : Call Welding_weldEnds d 0 0 [.ref a, .ref dd, .int (I r)] h Q := by
  have d1 : 1 ≤ d := by omega
  have hms := ms_bd w
  obtain ⟨X0, Y0, B0, Z0, n0, q0⟩ := id hx
  refine Call.intro (by rfl) (Nat.le_of_ble_eq_true rfl) ?_
  refine G.eqL (L := [some (.ref _), some (.ref _), some (.int _), none]) rfl ?_
  refine B_Welding_weldEnds_0 ?_
  simp only [wp_cons, wp_nil, List.getElem?_cons_zero, List.getElem?_cons_succ, List.set_cons_zero, List.set_cons_succ, s_aload_n0, ldA_r, ldA_n, ldA_s, s_aload_n1, s_invokevirtual, rc_s, ob_s, List.drop_succ_cons, List.drop_zero, List.take_succ_cons, List.take_zero, List.reverse_cons, List.reverse_nil, List.nil_append, List.cons_append, List.length_cons, List.length_nil, d1, Int.reduceToNat, Nat.reduceAdd, Nat.reduceLeDiff, true_and, and_true, Nat.le_refl, true_implies, forall_const, not_false_eq_true, false_implies, not_true_eq_false, reduceCtorEq, tl_s, tl_n, rf_s, true_or, or_true, q0.1]
  refine Wld_take_c (by omega) w hd hs hx (fun h1 X Y B Z c1 wl1 wr1 => ?_)
  refine B_Welding_weldEnds_5 ?_
  simp only [wp_cons, wp_nil, List.getElem?_cons_zero, List.getElem?_cons_succ, List.set_cons_zero, List.set_cons_succ, s_iconst, s_istore_n3, p1_s, s1_0, s1_s, kx_i, kx_r, kx_s, kx_n, kx_l, kx_0, true_and, and_true, Nat.le_refl, true_implies, forall_const, not_false_eq_true, false_implies, not_true_eq_false, reduceCtorEq, tl_s, tl_n, rf_s, List.cons_append, List.nil_append, true_or, or_true, q0.1]
  exact Wld_ends_l d4 hr w hd hs hQ _ 0 Ss h1 X Y B (weldF_ok w) (Nat.zero_add _) (by omega) w (shp.rf _) c1 wl1 wr1
