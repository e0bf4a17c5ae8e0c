/-! ===== the text: its form, and the strokes that it tells ===== -/
def nst (s c p : Int) : Int := if 48 ≤ c ∧ c ≤ 57 then (if s = 3 ∨ 7 ≤ s then -1 else s + 1) else if c = 44 then (if 0 < s ∧ s ≤ 3 then 4 else -1) else if s ≤ 4 then -1 else if c = 59 then (if 2 ≤ p then 0 else -1) else if s = 8 then -1 else if c = 45 then 0 else if c = 122 ∧ 3 ≤ p then 8 else -1
def npt (c p : Int) : Int := if c = 45 then p + 1 else if c = 59 then 1 else p
def dfa (T : List Int) (m i : Nat) (s p : Int) : Int := match m with
  | 0 => if 4 < s ∧ 2 ≤ p then -6 else T.length
  | m + 1 => if nst s (pg T i) p = -1 then i else dfa T m (i + 1) (nst s (pg T i) p) (npt (pg T i) p)
def errT (T : List Int) : Int := dfa T T.length 0 0 1
def wfT (T : List Int) : Prop := T.length ≤ 80 ∧ ∀ i, i < T.length → 33 ≤ pg T i ∧ pg T i ≤ 126
def prs (T : List Int) (m i : Nat) (A : List Stk) (C : List Int) (z : Bool) (x n : Int) : List Stk := match m with
  | 0 => A ++ [(if z = true then C else C ++ [1000 * x + n], z)]
  | m + 1 => if 48 ≤ pg T i ∧ pg T i ≤ 57 then prs T m (i + 1) A C z x (10 * n + (pg T i - 48)) else if pg T i = 44 then prs T m (i + 1) A C z n 0 else if pg T i = 59 then prs T m (i + 1) (A ++ [(if z = true then C else C ++ [1000 * x + n], z)]) [] false x 0 else prs T m (i + 1) A (if z = true then C else C ++ [1000 * x + n]) (if z = true then true else decide (pg T i = 122)) x 0
def prsT (T : List Int) : List Stk := prs T T.length 0 [] [] false 0 0
theorem nst_bd {s c p : Int} (hs : 0 ≤ s ∧ s ≤ 8) : -1 ≤ nst s c p ∧ nst s c p ≤ 8 := by
  unfold nst
  repeat' split
  all_goals omega
/-- a row as it comes out of a text -/
def rawS (S : Stk) : Prop := 2 ≤ S.1.length ∧ S.1.length ≤ 30 ∧ stP S.1 ∧ (S.2 = true → 3 ≤ S.1.length)
def rawL (A : List Stk) : Prop := ∀ i, i < A.length → rawS (sg A i)
theorem rawL_app {A : List Stk} {S : Stk} (h : rawL A) (hS : rawS S) : rawL (A ++ [S]) := by
  intro i hi
  rw [List.length_append] at hi
  by_cases c : i < A.length
  · rw [sg_app_l _ _ c]; exact h i c
  · rw [sg_app_r _ _ (by omega), show i - A.length = 0 by simp at hi; omega]
    exact hS
/-- what holds between reading and checking, at a place of the text -/
def pinv (i : Nat) (A : List Stk) (C : List Int) (z : Bool) (x n s p : Int) : Prop :=
  (0 ≤ s ∧ s ≤ 8) ∧ (z = true → s = 8 ∧ p = C.length ∧ 3 ≤ p) ∧ (z = false → s ≠ 8 ∧ p = C.length + 1) ∧ 8 * A.length + 4 * C.length + (if s = 0 then 0 else if s ≤ 3 then 1 else if s = 4 then 2 else if s ≤ 7 then 3 else 0) ≤ i ∧ (0 ≤ x ∧ x ≤ 999) ∧ 0 ≤ n ∧ (if s = 1 ∨ s = 5 then n ≤ 9 else if s = 2 ∨ s = 6 then n ≤ 99 else if s = 3 ∨ s = 7 then n ≤ 999 else n = 0) ∧ stP C ∧ rawL A
theorem pinv_n {i : Nat} {A : List Stk} {C : List Int} {z : Bool} {x n s p : Int} (h : pinv i A C z x n s p) : (0 ≤ n ∧ n ≤ 999) ∧ 0 ≤ x ∧ x ≤ 999 := by
  obtain ⟨h1, h2, h3, h4, h5, h6, h7, h8, h9⟩ := h
  have : n ≤ 999 := by
    split at h7
    · omega
    · split at h7
      · omega
      · split at h7 <;> omega
  omega
theorem pinv_pt {i : Nat} {A : List Stk} {C : List Int} {z : Bool} {x n s p : Int} (h : pinv i A C z x n s p) : pt (1000 * x + n) := by
  obtain ⟨h1, h2, h3, h4, h5, h6, h7, h8, h9⟩ := h
  have : n ≤ 999 := by
    split at h7
    · omega
    · split at h7
      · omega
      · split at h7 <;> omega
  omega
/-- the row that is closed or ended by a sign behind a whole point -/
theorem pinv_row {i : Nat} {A : List Stk} {C : List Int} {z : Bool} {x n s p : Int} (hi : i ≤ 80) (h : pinv i A C z x n s p) (hs : 4 < s) (hp : 2 ≤ p) : rawS (if z = true then C else C ++ [1000 * x + n], z) ∧ (if z = true then C else C ++ [1000 * x + n]).length = p ∧ 8 * A.length + 4 * (if z = true then C else C ++ [1000 * x + n]).length ≤ i + 1 := by
  have h0 := pinv_pt h
  obtain ⟨h1, h2, h3, h4, h5, h6, h7, h8, h9⟩ := h
  rw [if_neg (by omega), if_neg (by omega), if_neg (by omega)] at h4
  cases z with
  | true =>
    obtain ⟨e1, e2, e3⟩ := h2 rfl
    rw [if_neg (by omega)] at h4
    rw [if_pos rfl]
    exact ⟨⟨by show 2 ≤ C.length; omega, by show C.length ≤ 30; omega, h8, fun _ => by show 3 ≤ C.length; omega⟩, by omega, by omega⟩
  | false =>
    obtain ⟨e1, e2⟩ := h3 rfl
    rw [if_pos (by omega)] at h4
    rw [if_neg (by decide)]
    have hl : (C ++ [1000 * x + n]).length = C.length + 1 := by simp
    exact ⟨⟨by show 2 ≤ (C ++ [1000 * x + n]).length; omega, by show (C ++ [1000 * x + n]).length ≤ 30; omega, stP_app h8 (stP_one h0), fun q => by cases q⟩, by omega, by omega⟩
theorem pinv_step {i : Nat} {A : List Stk} {C : List Int} {z : Bool} {x n s p c : Int} (hi : i < 80) (h : pinv i A C z x n s p) (hn : nst s c p ≠ -1) :
    (48 ≤ c ∧ c ≤ 57 → pinv (i + 1) A C z x (10 * n + (c - 48)) (nst s c p) (npt c p)) ∧ (¬ (48 ≤ c ∧ c ≤ 57) → c = 44 → z = false ∧ pinv (i + 1) A C z n 0 (nst s c p) (npt c p)) ∧ (¬ (48 ≤ c ∧ c ≤ 57) → c ≠ 44 → c = 59 → 4 < s ∧ 2 ≤ p ∧ pinv (i + 1) (A ++ [(if z = true then C else C ++ [1000 * x + n], z)]) [] false x 0 (nst s c p) (npt c p)) ∧
    (¬ (48 ≤ c ∧ c ≤ 57) → c ≠ 44 → c ≠ 59 → 4 < s ∧ z = false ∧ (c = 45 ∨ c = 122) ∧ pinv (i + 1) A (C ++ [1000 * x + n]) (decide (c = 122)) x 0 (nst s c p) (npt c p)) := by
  have h0 := pinv_pt h
  have hn9 := pinv_n h
  have hrow := pinv_row (i := i) (by omega) h
  obtain ⟨h1, h2, h3, h4, h5, h6, h7, h8, h9⟩ := h
  refine ⟨fun d => ?_, fun d e => ?_, fun d e f => ?_, fun d e f => ?_⟩
  · have e1 : nst s c p = s + 1 ∧ ¬ (s = 3 ∨ 7 ≤ s) := by
      unfold nst at hn ⊢
      rw [if_pos d] at hn ⊢
      by_cases q : s = 3 ∨ 7 ≤ s
      · rw [if_pos q] at hn; exact absurd rfl hn
      · rw [if_neg q]; exact ⟨rfl, q⟩
    have e2 : npt c p = p := by unfold npt; rw [if_neg (by omega), if_neg (by omega)]
    have hz : z = false := by
      cases z with
      | true => have := (h2 rfl).1; omega
      | false => rfl
    subst hz
    obtain ⟨q1, q2⟩ := h3 rfl
    rw [e1.1, e2]
    refine ⟨by omega, (fun q => by cases q), fun _ => ⟨by omega, q2⟩, ?_, h5, by omega, ?_, h8, h9⟩
    · have : s = 0 ∨ s = 1 ∨ s = 2 ∨ s = 4 ∨ s = 5 ∨ s = 6 := by omega
      rcases this with q | q | q | q | q | q <;> subst q <;> simp at h4 ⊢ <;> omega
    · have : s = 0 ∨ s = 1 ∨ s = 2 ∨ s = 4 ∨ s = 5 ∨ s = 6 := by omega
      rcases this with q | q | q | q | q | q <;> subst q <;> simp at h7 ⊢ <;> omega
  · subst e
    have e1 : nst s 44 p = 4 ∧ 0 < s ∧ s ≤ 3 := by
      unfold nst at hn ⊢
      rw [if_neg d, if_pos rfl] at hn ⊢
      by_cases q : 0 < s ∧ s ≤ 3
      · rw [if_pos q]; exact ⟨rfl, q⟩
      · rw [if_neg q] at hn; exact absurd rfl hn
    have e2 : npt 44 p = p := by unfold npt; rw [if_neg (by omega), if_neg (by omega)]
    have hz : z = false := by
      cases z with
      | true => have := (h2 rfl).1; omega
      | false => rfl
    subst hz
    obtain ⟨q1, q2⟩ := h3 rfl
    rw [e1.1, e2]
    refine ⟨rfl, by omega, (fun q => by cases q), fun _ => ⟨by omega, q2⟩, ?_, by omega, by omega, by simp, h8, h9⟩
    rw [if_neg (by omega), if_pos (by omega)] at h4
    rw [if_neg (by omega), if_neg (by omega), if_pos (by omega)]
    omega
  · subst f
    have e1 : nst s 59 p = 0 ∧ 4 < s ∧ 2 ≤ p := by
      unfold nst at hn ⊢
      rw [if_neg d, if_neg e] at hn ⊢
      by_cases q : s ≤ 4
      · rw [if_pos q] at hn; exact absurd rfl hn
      · rw [if_neg q, if_pos rfl] at hn ⊢
        by_cases q2 : 2 ≤ p
        · rw [if_pos q2]; exact ⟨rfl, by omega, q2⟩
        · rw [if_neg q2] at hn; exact absurd rfl hn
    have e2 : npt 59 p = 1 := by unfold npt; rw [if_neg (by omega), if_pos rfl]
    obtain ⟨r1, r2, r3⟩ := hrow e1.2.1 e1.2.2
    rw [e1.1, e2]
    refine ⟨e1.2.1, e1.2.2, by omega, fun q => (by cases q), fun _ => ⟨by omega, rfl⟩, ?_, h5, by omega, by simp, stP_nil, rawL_app h9 r1⟩
    rw [if_pos rfl, List.length_append]
    simp only [List.length_cons, List.length_nil]
    omega
  · have e1 : 4 < s ∧ s ≠ 8 ∧ ((c = 45 ∧ nst s c p = 0) ∨ (c = 122 ∧ 3 ≤ p ∧ nst s c p = 8)) := by
      unfold nst at hn ⊢
      rw [if_neg d, if_neg e] at hn ⊢
      by_cases q : s ≤ 4
      · rw [if_pos q] at hn; exact absurd rfl hn
      · rw [if_neg q, if_neg f] at hn ⊢
        by_cases q2 : s = 8
        · rw [if_pos q2] at hn; exact absurd rfl hn
        · rw [if_neg q2] at hn ⊢
          refine ⟨by omega, q2, ?_⟩
          by_cases q3 : c = 45
          · rw [if_pos q3]; exact Or.inl ⟨q3, rfl⟩
          · rw [if_neg q3] at hn ⊢
            by_cases q4 : c = 122 ∧ 3 ≤ p
            · rw [if_pos q4]; exact Or.inr ⟨q4.1, q4.2, rfl⟩
            · rw [if_neg q4] at hn; exact absurd rfl hn
    have hz : z = false := by
      cases z with
      | true => have := (h2 rfl).1; omega
      | false => rfl
    subst hz
    obtain ⟨q1, q2⟩ := h3 rfl
    rw [if_neg (by omega), if_neg (by omega), if_neg (by omega), if_pos (by omega)] at h4
    have hl : (C ++ [1000 * x + n]).length = C.length + 1 := by simp
    refine ⟨e1.1, rfl, by omega, ?_⟩
    rcases e1.2.2 with ⟨c1, c2⟩ | ⟨c1, c2, c3⟩
    · have e2 : npt c p = p + 1 := by unfold npt; rw [if_pos c1]
      rw [c2, e2, show decide (c = 122) = false by simp; omega]
      refine ⟨by omega, fun q => (by cases q), fun _ => ⟨by omega, by omega⟩, ?_, h5, by omega, by simp, stP_app h8 (stP_one h0), h9⟩
      rw [if_pos rfl]; omega
    · have e2 : npt c p = p := by unfold npt; rw [if_neg (by omega), if_neg (by omega)]
      rw [c3, e2, show decide (c = 122) = true by simp; omega]
      refine ⟨by omega, fun _ => ⟨rfl, by omega, c2⟩, fun q => (by cases q), ?_, h5, by omega, by simp, stP_app h8 (stP_one h0), h9⟩
      rw [if_neg (by omega), if_neg (by omega), if_neg (by omega), if_neg (by omega)]; omega
theorem prs_ok {T : List Int} (w : T.length ≤ 80) : ∀ (m i : Nat) (A : List Stk) (C : List Int) (z : Bool) (x n s p : Int), i + m = T.length → pinv i A C z x n s p → dfa T m i s p = -6 → rawL (prs T m i A C z x n) ∧ 1 ≤ (prs T m i A C z x n).length ∧ (prs T m i A C z x n).length ≤ 10 := by
  intro m
  induction m with
  | zero =>
    intro i A C z x n s p hi hv hd
    have hc : 4 < s ∧ 2 ≤ p := by
      unfold dfa at hd
      split at hd
      · assumption
      · omega
    obtain ⟨r1, r2, r3⟩ := pinv_row (by omega) hv hc.1 hc.2
    unfold prs
    have hl : (A ++ [((if z = true then C else C ++ [1000 * x + n]), z)]).length = A.length + 1 := by simp
    refine ⟨rawL_app hv.2.2.2.2.2.2.2.2 r1, by omega, ?_⟩
    have := hv.2.2.2.1
    have h2 := hv.2.1
    have h3 := hv.2.2.1
    cases z with
    | true => have := h2 rfl; omega
    | false => have := h3 rfl; omega
  | succ m ih =>
    intro i A C z x n s p hi hv hd
    have hn : nst s (pg T i) p ≠ -1 := by
      intro q
      have : dfa T (m + 1) i s p = i := if_pos q
      omega
    have hd2 : dfa T m (i + 1) (nst s (pg T i) p) (npt (pg T i) p) = -6 := by
      have : dfa T (m + 1) i s p = dfa T m (i + 1) (nst s (pg T i) p) (npt (pg T i) p) := if_neg hn
      rw [← this]; exact hd
    obtain ⟨s1, s2, s3, s4⟩ := pinv_step (by omega) hv hn
    unfold prs
    by_cases c1 : 48 ≤ pg T i ∧ pg T i ≤ 57
    · rw [if_pos c1]
      exact ih (i + 1) _ _ _ _ _ _ _ (by omega) (s1 c1) hd2
    · rw [if_neg c1]
      by_cases c2 : pg T i = 44
      · rw [if_pos c2]
        exact ih (i + 1) _ _ _ _ _ _ _ (by omega) (s2 c1 c2).2 hd2
      · rw [if_neg c2]
        by_cases c3 : pg T i = 59
        · rw [if_pos c3]
          exact ih (i + 1) _ _ _ _ _ _ _ (by omega) (s3 c1 c2 c3).2.2 hd2
        · rw [if_neg c3]
          obtain ⟨d1, rfl, d3, d4⟩ := s4 c1 c2 c3
          rw [if_neg (by decide), if_neg (by decide)]
          exact ih (i + 1) _ _ _ _ _ _ _ (by omega) d4 hd2
theorem pinv_0 : pinv 0 [] [] false 0 0 0 1 := by
  refine ⟨by omega, (fun q => by cases q), fun _ => ⟨by omega, rfl⟩, by simp, by omega, by omega, by simp, stP_nil, fun i hi => absurd hi (by simp)⟩
theorem prsT_ok {T : List Int} (w : wfT T) (h : errT T = -6) : rawL (prsT T) ∧ 1 ≤ (prsT T).length ∧ (prsT T).length ≤ 10 := prs_ok w.1 T.length 0 [] [] false 0 0 0 1 (by omega) pinv_0 h
/-! the text's cells -/
def txt (h : g_H) (a : Nat) (T : List Int) : Prop := T.length ≤ 80 ∧ h[a]? = some (.inr (.inr (3, [.ref (a + 1), .ref (a + 2), .int (I (T.length : Int))]))) ∧ (∃ f : Nat → Int32, h[a + 1]? = some (.inl (1, 80, f)) ∧ ∀ i, i < T.length → f i = I (pg T i)) ∧ stX h (a + 2)
theorem txt.kp {h h' : g_H} {a lo hi : Nat} {T : List Int} (q : txt h a T) (c : chg lo hi h h') (ho : a + 4 ≤ lo ∨ hi ≤ a) : txt h' a T := by
  obtain ⟨q1, q2, ⟨f, q3, q4⟩, q5⟩ := q
  exact ⟨q1, (c.at (by omega)).trans q2, ⟨f, (c.at (by omega)).trans q3, q4⟩, q5.kp c (by omega)⟩
theorem ch_ok : ∀ c : Nat, c < 127 → ((I (c : Int)).toUInt32 % 65536).toInt32 = I (c : Int) := by decide +kernel
theorem ch_okI {c : Int} (h : 0 ≤ c ∧ c ≤ 126) : ((I c).toUInt32 % 65536).toInt32 = I c := by
  obtain ⟨n, rfl⟩ : ∃ n : Nat, c = n := ⟨c.toNat, by omega⟩
  exact ch_ok n (by omega)
theorem ch_nar {c : Int} (h : 0 ≤ c ∧ c ≤ 126) : vp_nar .char (I c) = I c := ch_okI h
/-! blocks of Text_add -/
theorem ml_Text_add : (g_m Text_add).2.2.1 = 2 := rfl
theorem rt_Text_add : (g_m Text_add).2.2.2.1 = none := rfl
theorem B_Text_add_0 {d mc ms cs ss : Nat} {L : List (Option Value)} {st : List Value} {h : g_H} {Q : g_Po} (hw : g_wp Text_add d mc ms Q 7 [(0, 1, 0, 0, 0, 0, .aload_n 0), (1, 3, 3, 2, 1133, 0, .getfield 22), (4, 3, 39, 0, 0, 0, .ifCond .lt 35)] cs ss L st h) : G Text_add d mc ms cs ss 0 L st h Q := G.run (by decide +kernel) hw
theorem B_Text_add_7 {d mc ms cs ss : Nat} {L : List (Option Value)} {st : List Value} {h : g_H} {Q : g_Po} (hw : g_wp Text_add d mc ms Q 19 [(7, 1, 0, 0, 0, 0, .aload_n 0), (8, 3, 3, 2, 1133, 0, .getfield 22), (11, 1, 0, 0, 0, 0, .aload_n 0), (12, 3, 3, 0, 1131, 2, .getfield 9), (15, 1, 0, 0, 0, 0, .arraylength), (16, 3, 39, 0, 0, 0, .if_icmp .ge 23)] cs ss L st h) : G Text_add d mc ms cs ss 7 L st h Q := G.run (by decide +kernel) hw
theorem B_Text_add_19 {d mc ms cs ss : Nat} {L : List (Option Value)} {st : List Value} {h : g_H} {Q : g_Po} (hw : g_wp Text_add d mc ms Q 39 [(19, 1, 0, 0, 0, 0, .aload_n 0), (20, 3, 3, 0, 1131, 2, .getfield 9), (23, 1, 0, 0, 0, 0, .aload_n 0), (24, 3, 3, 2, 1133, 0, .getfield 22), (27, 1, 0, 0, 0, 0, .iload_n 1), (28, 1, 0, 0, 0, 0, .castore), (29, 1, 0, 0, 0, 0, .aload_n 0), (30, 1, 0, 0, 0, 0, .dup), (31, 3, 3, 2, 1133, 0, .getfield 22), (34, 1, 0, 0, 0, 1, .iconst 1), (35, 1, 0, 0, 0, 0, .iadd), (36, 3, 3, 2, 1133, 0, .putfield 22)] cs ss L st h) : G Text_add d mc ms cs ss 19 L st h Q := G.run (by decide +kernel) hw
theorem B_Text_add_39 {d mc ms cs ss : Nat} {L : List (Option Value)} {st : List Value} {h : g_H} {Q : g_Po} (hw : g_wp Text_add d mc ms Q 40 [(39, 1, 0, 0, 0, 0, .return_)] cs ss L st h) : G Text_add d mc ms cs ss 39 L st h Q := G.run (by decide +kernel) hw
/-! blocks of Text_signAt -/
theorem ml_Text_signAt : (g_m Text_signAt).2.2.1 = 2 := rfl
theorem rt_Text_signAt : (g_m Text_signAt).2.2.2.1 = (some .char) := rfl
theorem B_Text_signAt_0 {d mc ms cs ss : Nat} {L : List (Option Value)} {st : List Value} {h : g_H} {Q : g_Po} (hw : g_wp Text_signAt d mc ms Q 4 [(0, 1, 0, 0, 0, 0, .iload_n 1), (1, 3, 22, 0, 0, 0, .ifCond .lt 21)] cs ss L st h) : G Text_signAt d mc ms cs ss 0 L st h Q := G.run (by decide +kernel) hw
theorem B_Text_signAt_4 {d mc ms cs ss : Nat} {L : List (Option Value)} {st : List Value} {h : g_H} {Q : g_Po} (hw : g_wp Text_signAt d mc ms Q 13 [(4, 1, 0, 0, 0, 0, .iload_n 1), (5, 1, 0, 0, 0, 0, .aload_n 0), (6, 3, 3, 0, 1131, 2, .getfield 9), (9, 1, 0, 0, 0, 0, .arraylength), (10, 3, 22, 0, 0, 0, .if_icmp .ge 12)] cs ss L st h) : G Text_signAt d mc ms cs ss 4 L st h Q := G.run (by decide +kernel) hw
theorem B_Text_signAt_13 {d mc ms cs ss : Nat} {L : List (Option Value)} {st : List Value} {h : g_H} {Q : g_Po} (hw : g_wp Text_signAt d mc ms Q 22 [(13, 1, 0, 0, 0, 0, .aload_n 0), (14, 3, 3, 0, 1131, 2, .getfield 9), (17, 1, 0, 0, 0, 0, .iload_n 1), (18, 1, 0, 0, 0, 0, .caload), (19, 3, 23, 0, 0, 0, .goto 4)] cs ss L st h) : G Text_signAt d mc ms cs ss 13 L st h Q := G.run (by decide +kernel) hw
theorem B_Text_signAt_22 {d mc ms cs ss : Nat} {L : List (Option Value)} {st : List Value} {h : g_H} {Q : g_Po} (hw : g_wp Text_signAt d mc ms Q 23 [(22, 1, 0, 0, 0, 0, .iconst 0)] cs ss L st h) : G Text_signAt d mc ms cs ss 22 L st h Q := G.run (by decide +kernel) hw
theorem B_Text_signAt_23 {d mc ms cs ss : Nat} {L : List (Option Value)} {st : List Value} {h : g_H} {Q : g_Po} (hw : g_wp Text_signAt d mc ms Q 24 [(23, 1, 0, 0, 0, 0, .ireturn)] cs ss L st h) : G Text_signAt d mc ms cs ss 23 L st h Q := G.run (by decide +kernel) hw
/-! blocks of Text_isDigit -/
theorem ml_Text_isDigit : (g_m Text_isDigit).2.2.1 = 1 := rfl
theorem rt_Text_isDigit : (g_m Text_isDigit).2.2.2.1 = (some .boolean) := rfl
theorem B_Text_isDigit_0 {d mc ms cs ss : Nat} {L : List (Option Value)} {st : List Value} {h : g_H} {Q : g_Po} (hw : g_wp Text_isDigit d mc ms Q 6 [(0, 1, 0, 0, 0, 0, .iload_n 0), (1, 2, 0, 0, 0, 48, .bipush 48), (3, 3, 16, 0, 0, 0, .if_icmp .lt 13)] cs ss L st h) : G Text_isDigit d mc ms cs ss 0 L st h Q := G.run (by decide +kernel) hw
theorem B_Text_isDigit_6 {d mc ms cs ss : Nat} {L : List (Option Value)} {st : List Value} {h : g_H} {Q : g_Po} (hw : g_wp Text_isDigit d mc ms Q 12 [(6, 1, 0, 0, 0, 0, .iload_n 0), (7, 2, 0, 0, 0, 57, .bipush 57), (9, 3, 16, 0, 0, 0, .if_icmp .gt 7)] cs ss L st h) : G Text_isDigit d mc ms cs ss 6 L st h Q := G.run (by decide +kernel) hw
theorem B_Text_isDigit_12 {d mc ms cs ss : Nat} {L : List (Option Value)} {st : List Value} {h : g_H} {Q : g_Po} (hw : g_wp Text_isDigit d mc ms Q 16 [(12, 1, 0, 0, 0, 1, .iconst 1), (13, 3, 17, 0, 0, 0, .goto 4)] cs ss L st h) : G Text_isDigit d mc ms cs ss 12 L st h Q := G.run (by decide +kernel) hw
theorem B_Text_isDigit_16 {d mc ms cs ss : Nat} {L : List (Option Value)} {st : List Value} {h : g_H} {Q : g_Po} (hw : g_wp Text_isDigit d mc ms Q 17 [(16, 1, 0, 0, 0, 0, .iconst 0)] cs ss L st h) : G Text_isDigit d mc ms cs ss 16 L st h Q := G.run (by decide +kernel) hw
theorem B_Text_isDigit_17 {d mc ms cs ss : Nat} {L : List (Option Value)} {st : List Value} {h : g_H} {Q : g_Po} (hw : g_wp Text_isDigit d mc ms Q 18 [(17, 1, 0, 0, 0, 0, .ireturn)] cs ss L st h) : G Text_isDigit d mc ms cs ss 17 L st h Q := G.run (by decide +kernel) hw
/-! blocks of Text_firstError -/
theorem ml_Text_firstError : (g_m Text_firstError).2.2.1 = 5 := rfl
theorem rt_Text_firstError : (g_m Text_firstError).2.2.2.1 = (some .int) := rfl
theorem B_Text_firstError_0 {d mc ms cs ss : Nat} {L : List (Option Value)} {st : List Value} {h : g_H} {Q : g_Po} (hw : g_wp Text_firstError d mc ms Q 6 [(0, 1, 0, 0, 0, 0, .iconst 0), (1, 1, 0, 0, 0, 0, .istore_n 1), (2, 1, 0, 0, 0, 1, .iconst 1), (3, 1, 0, 0, 0, 0, .istore_n 2), (4, 1, 0, 0, 0, 0, .iconst 0), (5, 1, 0, 0, 0, 0, .istore_n 3)] cs ss L st h) : G Text_firstError d mc ms cs ss 0 L st h Q := G.run (by decide +kernel) hw
theorem B_Text_firstError_6 {d mc ms cs ss : Nat} {L : List (Option Value)} {st : List Value} {h : g_H} {Q : g_Po} (hw : g_wp Text_firstError d mc ms Q 14 [(6, 1, 0, 0, 0, 0, .iload_n 3), (7, 1, 0, 0, 0, 0, .aload_n 0), (8, 3, 3, 2, 1133, 0, .getfield 22), (11, 3, 64, 0, 0, 0, .if_icmp .ge 53)] cs ss L st h) : G Text_firstError d mc ms cs ss 6 L st h Q := G.run (by decide +kernel) hw
theorem B_Text_firstError_14 {d mc ms cs ss : Nat} {L : List (Option Value)} {st : List Value} {h : g_H} {Q : g_Po} (hw : g_wp Text_firstError d mc ms Q 19 [(14, 1, 0, 0, 0, 0, .aload_n 0), (15, 1, 0, 0, 0, 0, .iload_n 3), (16, 3, 48, 3, 3094, 1, .invokevirtual 26)] cs ss L st h) : G Text_firstError d mc ms cs ss 14 L st h Q := G.run (by decide +kernel) hw
theorem B_Text_firstError_19 {d mc ms cs ss : Nat} {L : List (Option Value)} {st : List Value} {h : g_H} {Q : g_Po} (hw : g_wp Text_firstError d mc ms Q 28 [(19, 2, 0, 0, 0, 0, .istore 4), (21, 1, 0, 0, 0, 0, .iload_n 1), (22, 2, 0, 0, 0, 0, .iload 4), (24, 1, 0, 0, 0, 0, .iload_n 2), (25, 3, 51, 0, 3098, 3, .invokestatic 30)] cs ss L st h) : G Text_firstError d mc ms cs ss 19 L st h Q := G.run (by decide +kernel) hw
theorem B_Text_firstError_28 {d mc ms cs ss : Nat} {L : List (Option Value)} {st : List Value} {h : g_H} {Q : g_Po} (hw : g_wp Text_firstError d mc ms Q 34 [(28, 1, 0, 0, 0, 0, .istore_n 1), (29, 1, 0, 0, 0, 0, .iload_n 1), (30, 1, 0, 0, 0, (-1), .iconst (-1)), (31, 3, 36, 0, 0, 0, .if_icmp .ne 5)] cs ss L st h) : G Text_firstError d mc ms cs ss 28 L st h Q := G.run (by decide +kernel) hw
theorem B_Text_firstError_34 {d mc ms cs ss : Nat} {L : List (Option Value)} {st : List Value} {h : g_H} {Q : g_Po} (hw : g_wp Text_firstError d mc ms Q 36 [(34, 1, 0, 0, 0, 0, .iload_n 3), (35, 1, 0, 0, 0, 0, .ireturn)] cs ss L st h) : G Text_firstError d mc ms cs ss 34 L st h Q := G.run (by decide +kernel) hw
theorem B_Text_firstError_36 {d mc ms cs ss : Nat} {L : List (Option Value)} {st : List Value} {h : g_H} {Q : g_Po} (hw : g_wp Text_firstError d mc ms Q 43 [(36, 2, 0, 0, 0, 0, .iload 4), (38, 2, 0, 0, 0, 45, .bipush 45), (40, 3, 49, 0, 0, 0, .if_icmp .ne 9)] cs ss L st h) : G Text_firstError d mc ms cs ss 36 L st h Q := G.run (by decide +kernel) hw
theorem B_Text_firstError_43 {d mc ms cs ss : Nat} {L : List (Option Value)} {st : List Value} {h : g_H} {Q : g_Po} (hw : g_wp Text_firstError d mc ms Q 49 [(43, 3, 0, 0, 0, 1, .iinc 2 1), (46, 3, 58, 0, 0, 0, .goto 12)] cs ss L st h) : G Text_firstError d mc ms cs ss 43 L st h Q := G.run (by decide +kernel) hw
theorem B_Text_firstError_49 {d mc ms cs ss : Nat} {L : List (Option Value)} {st : List Value} {h : g_H} {Q : g_Po} (hw : g_wp Text_firstError d mc ms Q 56 [(49, 2, 0, 0, 0, 0, .iload 4), (51, 2, 0, 0, 0, 59, .bipush 59), (53, 3, 58, 0, 0, 0, .if_icmp .ne 5)] cs ss L st h) : G Text_firstError d mc ms cs ss 49 L st h Q := G.run (by decide +kernel) hw
theorem B_Text_firstError_56 {d mc ms cs ss : Nat} {L : List (Option Value)} {st : List Value} {h : g_H} {Q : g_Po} (hw : g_wp Text_firstError d mc ms Q 58 [(56, 1, 0, 0, 0, 1, .iconst 1), (57, 1, 0, 0, 0, 0, .istore_n 2)] cs ss L st h) : G Text_firstError d mc ms cs ss 56 L st h Q := G.run (by decide +kernel) hw
theorem B_Text_firstError_58 {d mc ms cs ss : Nat} {L : List (Option Value)} {st : List Value} {h : g_H} {Q : g_Po} (hw : g_wp Text_firstError d mc ms Q 64 [(58, 3, 0, 0, 0, 1, .iinc 3 1), (61, 3, 6, 0, 0, 0, .goto (-55))] cs ss L st h) : G Text_firstError d mc ms cs ss 58 L st h Q := G.run (by decide +kernel) hw
theorem B_Text_firstError_64 {d mc ms cs ss : Nat} {L : List (Option Value)} {st : List Value} {h : g_H} {Q : g_Po} (hw : g_wp Text_firstError d mc ms Q 69 [(64, 1, 0, 0, 0, 0, .iload_n 1), (65, 1, 0, 0, 0, 4, .iconst 4), (66, 3, 79, 0, 0, 0, .if_icmp .le 13)] cs ss L st h) : G Text_firstError d mc ms cs ss 64 L st h Q := G.run (by decide +kernel) hw
theorem B_Text_firstError_69 {d mc ms cs ss : Nat} {L : List (Option Value)} {st : List Value} {h : g_H} {Q : g_Po} (hw : g_wp Text_firstError d mc ms Q 74 [(69, 1, 0, 0, 0, 0, .iload_n 2), (70, 1, 0, 0, 0, 2, .iconst 2), (71, 3, 79, 0, 0, 0, .if_icmp .lt 8)] cs ss L st h) : G Text_firstError d mc ms cs ss 69 L st h Q := G.run (by decide +kernel) hw
theorem B_Text_firstError_74 {d mc ms cs ss : Nat} {L : List (Option Value)} {st : List Value} {h : g_H} {Q : g_Po} (hw : g_wp Text_firstError d mc ms Q 79 [(74, 2, 0, 0, 0, (-6), .bipush (-6)), (76, 3, 83, 0, 0, 0, .goto 7)] cs ss L st h) : G Text_firstError d mc ms cs ss 74 L st h Q := G.run (by decide +kernel) hw
theorem B_Text_firstError_79 {d mc ms cs ss : Nat} {L : List (Option Value)} {st : List Value} {h : g_H} {Q : g_Po} (hw : g_wp Text_firstError d mc ms Q 83 [(79, 1, 0, 0, 0, 0, .aload_n 0), (80, 3, 3, 2, 1133, 0, .getfield 22)] cs ss L st h) : G Text_firstError d mc ms cs ss 79 L st h Q := G.run (by decide +kernel) hw
theorem B_Text_firstError_83 {d mc ms cs ss : Nat} {L : List (Option Value)} {st : List Value} {h : g_H} {Q : g_Po} (hw : g_wp Text_firstError d mc ms Q 84 [(83, 1, 0, 0, 0, 0, .ireturn)] cs ss L st h) : G Text_firstError d mc ms cs ss 83 L st h Q := G.run (by decide +kernel) hw
/-! blocks of Text_nextState -/
theorem ml_Text_nextState : (g_m Text_nextState).2.2.1 = 3 := rfl
theorem rt_Text_nextState : (g_m Text_nextState).2.2.2.1 = (some .int) := rfl
theorem B_Text_nextState_0 {d mc ms cs ss : Nat} {L : List (Option Value)} {st : List Value} {h : g_H} {Q : g_Po} (hw : g_wp Text_nextState d mc ms Q 4 [(0, 1, 0, 0, 0, 0, .iload_n 1), (1, 3, 49, 0, 3101, 1, .invokestatic 34)] cs ss L st h) : G Text_nextState d mc ms cs ss 0 L st h Q := G.run (by decide +kernel) hw
theorem B_Text_nextState_4 {d mc ms cs ss : Nat} {L : List (Option Value)} {st : List Value} {h : g_H} {Q : g_Po} (hw : g_wp Text_nextState d mc ms Q 7 [(4, 3, 26, 0, 0, 0, .ifCond .eq 22)] cs ss L st h) : G Text_nextState d mc ms cs ss 4 L st h Q := G.run (by decide +kernel) hw
theorem B_Text_nextState_7 {d mc ms cs ss : Nat} {L : List (Option Value)} {st : List Value} {h : g_H} {Q : g_Po} (hw : g_wp Text_nextState d mc ms Q 12 [(7, 1, 0, 0, 0, 0, .iload_n 0), (8, 1, 0, 0, 0, 3, .iconst 3), (9, 3, 18, 0, 0, 0, .if_icmp .eq 9)] cs ss L st h) : G Text_nextState d mc ms cs ss 7 L st h Q := G.run (by decide +kernel) hw
theorem B_Text_nextState_12 {d mc ms cs ss : Nat} {L : List (Option Value)} {st : List Value} {h : g_H} {Q : g_Po} (hw : g_wp Text_nextState d mc ms Q 18 [(12, 1, 0, 0, 0, 0, .iload_n 0), (13, 2, 0, 0, 0, 7, .bipush 7), (15, 3, 22, 0, 0, 0, .if_icmp .lt 7)] cs ss L st h) : G Text_nextState d mc ms cs ss 12 L st h Q := G.run (by decide +kernel) hw
theorem B_Text_nextState_18 {d mc ms cs ss : Nat} {L : List (Option Value)} {st : List Value} {h : g_H} {Q : g_Po} (hw : g_wp Text_nextState d mc ms Q 22 [(18, 1, 0, 0, 0, (-1), .iconst (-1)), (19, 3, 25, 0, 0, 0, .goto 6)] cs ss L st h) : G Text_nextState d mc ms cs ss 18 L st h Q := G.run (by decide +kernel) hw
theorem B_Text_nextState_22 {d mc ms cs ss : Nat} {L : List (Option Value)} {st : List Value} {h : g_H} {Q : g_Po} (hw : g_wp Text_nextState d mc ms Q 25 [(22, 1, 0, 0, 0, 0, .iload_n 0), (23, 1, 0, 0, 0, 1, .iconst 1), (24, 1, 0, 0, 0, 0, .iadd)] cs ss L st h) : G Text_nextState d mc ms cs ss 22 L st h Q := G.run (by decide +kernel) hw
theorem B_Text_nextState_25 {d mc ms cs ss : Nat} {L : List (Option Value)} {st : List Value} {h : g_H} {Q : g_Po} (hw : g_wp Text_nextState d mc ms Q 26 [(25, 1, 0, 0, 0, 0, .ireturn)] cs ss L st h) : G Text_nextState d mc ms cs ss 25 L st h Q := G.run (by decide +kernel) hw
theorem B_Text_nextState_26 {d mc ms cs ss : Nat} {L : List (Option Value)} {st : List Value} {h : g_H} {Q : g_Po} (hw : g_wp Text_nextState d mc ms Q 32 [(26, 1, 0, 0, 0, 0, .iload_n 1), (27, 2, 0, 0, 0, 44, .bipush 44), (29, 3, 47, 0, 0, 0, .if_icmp .ne 18)] cs ss L st h) : G Text_nextState d mc ms cs ss 26 L st h Q := G.run (by decide +kernel) hw
theorem B_Text_nextState_32 {d mc ms cs ss : Nat} {L : List (Option Value)} {st : List Value} {h : g_H} {Q : g_Po} (hw : g_wp Text_nextState d mc ms Q 36 [(32, 1, 0, 0, 0, 0, .iload_n 0), (33, 3, 45, 0, 0, 0, .ifCond .le 12)] cs ss L st h) : G Text_nextState d mc ms cs ss 32 L st h Q := G.run (by decide +kernel) hw
theorem B_Text_nextState_36 {d mc ms cs ss : Nat} {L : List (Option Value)} {st : List Value} {h : g_H} {Q : g_Po} (hw : g_wp Text_nextState d mc ms Q 41 [(36, 1, 0, 0, 0, 0, .iload_n 0), (37, 1, 0, 0, 0, 3, .iconst 3), (38, 3, 45, 0, 0, 0, .if_icmp .gt 7)] cs ss L st h) : G Text_nextState d mc ms cs ss 36 L st h Q := G.run (by decide +kernel) hw
theorem B_Text_nextState_41 {d mc ms cs ss : Nat} {L : List (Option Value)} {st : List Value} {h : g_H} {Q : g_Po} (hw : g_wp Text_nextState d mc ms Q 45 [(41, 1, 0, 0, 0, 4, .iconst 4), (42, 3, 46, 0, 0, 0, .goto 4)] cs ss L st h) : G Text_nextState d mc ms cs ss 41 L st h Q := G.run (by decide +kernel) hw
theorem B_Text_nextState_45 {d mc ms cs ss : Nat} {L : List (Option Value)} {st : List Value} {h : g_H} {Q : g_Po} (hw : g_wp Text_nextState d mc ms Q 46 [(45, 1, 0, 0, 0, (-1), .iconst (-1))] cs ss L st h) : G Text_nextState d mc ms cs ss 45 L st h Q := G.run (by decide +kernel) hw
theorem B_Text_nextState_46 {d mc ms cs ss : Nat} {L : List (Option Value)} {st : List Value} {h : g_H} {Q : g_Po} (hw : g_wp Text_nextState d mc ms Q 47 [(46, 1, 0, 0, 0, 0, .ireturn)] cs ss L st h) : G Text_nextState d mc ms cs ss 46 L st h Q := G.run (by decide +kernel) hw
theorem B_Text_nextState_47 {d mc ms cs ss : Nat} {L : List (Option Value)} {st : List Value} {h : g_H} {Q : g_Po} (hw : g_wp Text_nextState d mc ms Q 52 [(47, 1, 0, 0, 0, 0, .iload_n 0), (48, 1, 0, 0, 0, 4, .iconst 4), (49, 3, 54, 0, 0, 0, .if_icmp .gt 5)] cs ss L st h) : G Text_nextState d mc ms cs ss 47 L st h Q := G.run (by decide +kernel) hw
theorem B_Text_nextState_52 {d mc ms cs ss : Nat} {L : List (Option Value)} {st : List Value} {h : g_H} {Q : g_Po} (hw : g_wp Text_nextState d mc ms Q 54 [(52, 1, 0, 0, 0, (-1), .iconst (-1)), (53, 1, 0, 0, 0, 0, .ireturn)] cs ss L st h) : G Text_nextState d mc ms cs ss 52 L st h Q := G.run (by decide +kernel) hw
theorem B_Text_nextState_54 {d mc ms cs ss : Nat} {L : List (Option Value)} {st : List Value} {h : g_H} {Q : g_Po} (hw : g_wp Text_nextState d mc ms Q 60 [(54, 1, 0, 0, 0, 0, .iload_n 1), (55, 2, 0, 0, 0, 59, .bipush 59), (57, 3, 71, 0, 0, 0, .if_icmp .ne 14)] cs ss L st h) : G Text_nextState d mc ms cs ss 54 L st h Q := G.run (by decide +kernel) hw
theorem B_Text_nextState_60 {d mc ms cs ss : Nat} {L : List (Option Value)} {st : List Value} {h : g_H} {Q : g_Po} (hw : g_wp Text_nextState d mc ms Q 65 [(60, 1, 0, 0, 0, 0, .iload_n 2), (61, 1, 0, 0, 0, 2, .iconst 2), (62, 3, 69, 0, 0, 0, .if_icmp .lt 7)] cs ss L st h) : G Text_nextState d mc ms cs ss 60 L st h Q := G.run (by decide +kernel) hw
theorem B_Text_nextState_65 {d mc ms cs ss : Nat} {L : List (Option Value)} {st : List Value} {h : g_H} {Q : g_Po} (hw : g_wp Text_nextState d mc ms Q 69 [(65, 1, 0, 0, 0, 0, .iconst 0), (66, 3, 70, 0, 0, 0, .goto 4)] cs ss L st h) : G Text_nextState d mc ms cs ss 65 L st h Q := G.run (by decide +kernel) hw
theorem B_Text_nextState_69 {d mc ms cs ss : Nat} {L : List (Option Value)} {st : List Value} {h : g_H} {Q : g_Po} (hw : g_wp Text_nextState d mc ms Q 70 [(69, 1, 0, 0, 0, (-1), .iconst (-1))] cs ss L st h) : G Text_nextState d mc ms cs ss 69 L st h Q := G.run (by decide +kernel) hw
theorem B_Text_nextState_70 {d mc ms cs ss : Nat} {L : List (Option Value)} {st : List Value} {h : g_H} {Q : g_Po} (hw : g_wp Text_nextState d mc ms Q 71 [(70, 1, 0, 0, 0, 0, .ireturn)] cs ss L st h) : G Text_nextState d mc ms cs ss 70 L st h Q := G.run (by decide +kernel) hw
theorem B_Text_nextState_71 {d mc ms cs ss : Nat} {L : List (Option Value)} {st : List Value} {h : g_H} {Q : g_Po} (hw : g_wp Text_nextState d mc ms Q 77 [(71, 1, 0, 0, 0, 0, .iload_n 0), (72, 2, 0, 0, 0, 8, .bipush 8), (74, 3, 79, 0, 0, 0, .if_icmp .ne 5)] cs ss L st h) : G Text_nextState d mc ms cs ss 71 L st h Q := G.run (by decide +kernel) hw
theorem B_Text_nextState_77 {d mc ms cs ss : Nat} {L : List (Option Value)} {st : List Value} {h : g_H} {Q : g_Po} (hw : g_wp Text_nextState d mc ms Q 79 [(77, 1, 0, 0, 0, (-1), .iconst (-1)), (78, 1, 0, 0, 0, 0, .ireturn)] cs ss L st h) : G Text_nextState d mc ms cs ss 77 L st h Q := G.run (by decide +kernel) hw
theorem B_Text_nextState_79 {d mc ms cs ss : Nat} {L : List (Option Value)} {st : List Value} {h : g_H} {Q : g_Po} (hw : g_wp Text_nextState d mc ms Q 85 [(79, 1, 0, 0, 0, 0, .iload_n 1), (80, 2, 0, 0, 0, 45, .bipush 45), (82, 3, 87, 0, 0, 0, .if_icmp .ne 5)] cs ss L st h) : G Text_nextState d mc ms cs ss 79 L st h Q := G.run (by decide +kernel) hw
theorem B_Text_nextState_85 {d mc ms cs ss : Nat} {L : List (Option Value)} {st : List Value} {h : g_H} {Q : g_Po} (hw : g_wp Text_nextState d mc ms Q 87 [(85, 1, 0, 0, 0, 0, .iconst 0), (86, 1, 0, 0, 0, 0, .ireturn)] cs ss L st h) : G Text_nextState d mc ms cs ss 85 L st h Q := G.run (by decide +kernel) hw
theorem B_Text_nextState_87 {d mc ms cs ss : Nat} {L : List (Option Value)} {st : List Value} {h : g_H} {Q : g_Po} (hw : g_wp Text_nextState d mc ms Q 93 [(87, 1, 0, 0, 0, 0, .iload_n 1), (88, 2, 0, 0, 0, 122, .bipush 122), (90, 3, 103, 0, 0, 0, .if_icmp .ne 13)] cs ss L st h) : G Text_nextState d mc ms cs ss 87 L st h Q := G.run (by decide +kernel) hw
theorem B_Text_nextState_93 {d mc ms cs ss : Nat} {L : List (Option Value)} {st : List Value} {h : g_H} {Q : g_Po} (hw : g_wp Text_nextState d mc ms Q 98 [(93, 1, 0, 0, 0, 0, .iload_n 2), (94, 1, 0, 0, 0, 3, .iconst 3), (95, 3, 103, 0, 0, 0, .if_icmp .lt 8)] cs ss L st h) : G Text_nextState d mc ms cs ss 93 L st h Q := G.run (by decide +kernel) hw
theorem B_Text_nextState_98 {d mc ms cs ss : Nat} {L : List (Option Value)} {st : List Value} {h : g_H} {Q : g_Po} (hw : g_wp Text_nextState d mc ms Q 103 [(98, 2, 0, 0, 0, 8, .bipush 8), (100, 3, 104, 0, 0, 0, .goto 4)] cs ss L st h) : G Text_nextState d mc ms cs ss 98 L st h Q := G.run (by decide +kernel) hw
theorem B_Text_nextState_103 {d mc ms cs ss : Nat} {L : List (Option Value)} {st : List Value} {h : g_H} {Q : g_Po} (hw : g_wp Text_nextState d mc ms Q 104 [(103, 1, 0, 0, 0, (-1), .iconst (-1))] cs ss L st h) : G Text_nextState d mc ms cs ss 103 L st h Q := G.run (by decide +kernel) hw
theorem B_Text_nextState_104 {d mc ms cs ss : Nat} {L : List (Option Value)} {st : List Value} {h : g_H} {Q : g_Po} (hw : g_wp Text_nextState d mc ms Q 105 [(104, 1, 0, 0, 0, 0, .ireturn)] cs ss L st h) : G Text_nextState d mc ms cs ss 104 L st h Q := G.run (by decide +kernel) hw
/-! blocks of Text_parseInto -/
theorem ml_Text_parseInto : (g_m Text_parseInto).2.2.1 = 6 := rfl
theorem rt_Text_parseInto : (g_m Text_parseInto).2.2.2.1 = none := rfl
theorem B_Text_parseInto_0 {d mc ms cs ss : Nat} {L : List (Option Value)} {st : List Value} {h : g_H} {Q : g_Po} (hw : g_wp Text_parseInto d mc ms Q 12 [(0, 1, 0, 0, 0, 0, .aload_n 1), (1, 1, 0, 0, 0, 0, .iconst 0), (2, 3, 0, 2, 1064, 0, .putfield 38), (5, 1, 0, 0, 0, 0, .aload_n 0), (6, 3, 3, 1, 1132, 2, .getfield 18), (9, 3, 37, 2, 3116, 0, .invokevirtual 43)] cs ss L st h) : G Text_parseInto d mc ms cs ss 0 L st h Q := G.run (by decide +kernel) hw
theorem B_Text_parseInto_12 {d mc ms cs ss : Nat} {L : List (Option Value)} {st : List Value} {h : g_H} {Q : g_Po} (hw : g_wp Text_parseInto d mc ms Q 19 [(12, 1, 0, 0, 0, 0, .iconst 0), (13, 1, 0, 0, 0, 0, .istore_n 2), (14, 1, 0, 0, 0, 0, .iconst 0), (15, 1, 0, 0, 0, 0, .istore_n 3), (16, 1, 0, 0, 0, 0, .iconst 0), (17, 2, 0, 0, 0, 0, .istore 4)] cs ss L st h) : G Text_parseInto d mc ms cs ss 12 L st h Q := G.run (by decide +kernel) hw
theorem B_Text_parseInto_19 {d mc ms cs ss : Nat} {L : List (Option Value)} {st : List Value} {h : g_H} {Q : g_Po} (hw : g_wp Text_parseInto d mc ms Q 28 [(19, 2, 0, 0, 0, 0, .iload 4), (21, 1, 0, 0, 0, 0, .aload_n 0), (22, 3, 3, 2, 1133, 0, .getfield 22), (25, 3, 141, 0, 0, 0, .if_icmp .ge 116)] cs ss L st h) : G Text_parseInto d mc ms cs ss 19 L st h Q := G.run (by decide +kernel) hw
theorem B_Text_parseInto_28 {d mc ms cs ss : Nat} {L : List (Option Value)} {st : List Value} {h : g_H} {Q : g_Po} (hw : g_wp Text_parseInto d mc ms Q 34 [(28, 1, 0, 0, 0, 0, .aload_n 0), (29, 2, 0, 0, 0, 0, .iload 4), (31, 3, 48, 3, 3094, 1, .invokevirtual 26)] cs ss L st h) : G Text_parseInto d mc ms cs ss 28 L st h Q := G.run (by decide +kernel) hw
theorem B_Text_parseInto_34 {d mc ms cs ss : Nat} {L : List (Option Value)} {st : List Value} {h : g_H} {Q : g_Po} (hw : g_wp Text_parseInto d mc ms Q 41 [(34, 2, 0, 0, 0, 0, .istore 5), (36, 2, 0, 0, 0, 0, .iload 5), (38, 3, 49, 0, 3101, 1, .invokestatic 34)] cs ss L st h) : G Text_parseInto d mc ms cs ss 34 L st h Q := G.run (by decide +kernel) hw
theorem B_Text_parseInto_41 {d mc ms cs ss : Nat} {L : List (Option Value)} {st : List Value} {h : g_H} {Q : g_Po} (hw : g_wp Text_parseInto d mc ms Q 44 [(41, 3, 58, 0, 0, 0, .ifCond .eq 17)] cs ss L st h) : G Text_parseInto d mc ms cs ss 41 L st h Q := G.run (by decide +kernel) hw
theorem B_Text_parseInto_44 {d mc ms cs ss : Nat} {L : List (Option Value)} {st : List Value} {h : g_H} {Q : g_Po} (hw : g_wp Text_parseInto d mc ms Q 58 [(44, 2, 0, 0, 0, 10, .bipush 10), (46, 1, 0, 0, 0, 0, .iload_n 3), (47, 1, 0, 0, 0, 0, .imul), (48, 2, 0, 0, 0, 0, .iload 5), (50, 2, 0, 0, 0, 48, .bipush 48), (52, 1, 0, 0, 0, 0, .isub), (53, 1, 0, 0, 0, 0, .iadd), (54, 1, 0, 0, 0, 0, .istore_n 3), (55, 3, 135, 0, 0, 0, .goto 80)] cs ss L st h) : G Text_parseInto d mc ms cs ss 44 L st h Q := G.run (by decide +kernel) hw
theorem B_Text_parseInto_58 {d mc ms cs ss : Nat} {L : List (Option Value)} {st : List Value} {h : g_H} {Q : g_Po} (hw : g_wp Text_parseInto d mc ms Q 65 [(58, 2, 0, 0, 0, 0, .iload 5), (60, 2, 0, 0, 0, 44, .bipush 44), (62, 3, 70, 0, 0, 0, .if_icmp .ne 8)] cs ss L st h) : G Text_parseInto d mc ms cs ss 58 L st h Q := G.run (by decide +kernel) hw
theorem B_Text_parseInto_65 {d mc ms cs ss : Nat} {L : List (Option Value)} {st : List Value} {h : g_H} {Q : g_Po} (hw : g_wp Text_parseInto d mc ms Q 70 [(65, 1, 0, 0, 0, 0, .iload_n 3), (66, 1, 0, 0, 0, 0, .istore_n 2), (67, 3, 111, 0, 0, 0, .goto 44)] cs ss L st h) : G Text_parseInto d mc ms cs ss 65 L st h Q := G.run (by decide +kernel) hw
theorem B_Text_parseInto_70 {d mc ms cs ss : Nat} {L : List (Option Value)} {st : List Value} {h : g_H} {Q : g_Po} (hw : g_wp Text_parseInto d mc ms Q 80 [(70, 1, 0, 0, 0, 0, .aload_n 0), (71, 3, 3, 1, 1132, 2, .getfield 18), (74, 3, 2, 2, 1047, 1, .getfield 46), (77, 3, 111, 0, 0, 0, .ifCond .ne 34)] cs ss L st h) : G Text_parseInto d mc ms cs ss 70 L st h Q := G.run (by decide +kernel) hw
theorem B_Text_parseInto_80 {d mc ms cs ss : Nat} {L : List (Option Value)} {st : List Value} {h : g_H} {Q : g_Po} (hw : g_wp Text_parseInto d mc ms Q 89 [(80, 1, 0, 0, 0, 0, .aload_n 0), (81, 3, 3, 1, 1132, 2, .getfield 18), (84, 1, 0, 0, 0, 0, .iload_n 2), (85, 1, 0, 0, 0, 0, .iload_n 3), (86, 3, 26, 0, 3117, 2, .invokestatic 50)] cs ss L st h) : G Text_parseInto d mc ms cs ss 80 L st h Q := G.run (by decide +kernel) hw
theorem B_Text_parseInto_89 {d mc ms cs ss : Nat} {L : List (Option Value)} {st : List Value} {h : g_H} {Q : g_Po} (hw : g_wp Text_parseInto d mc ms Q 92 [(89, 3, 36, 2, 3118, 1, .invokevirtual 56)] cs ss L st h) : G Text_parseInto d mc ms cs ss 89 L st h Q := G.run (by decide +kernel) hw
theorem B_Text_parseInto_92 {d mc ms cs ss : Nat} {L : List (Option Value)} {st : List Value} {h : g_H} {Q : g_Po} (hw : g_wp Text_parseInto d mc ms Q 103 [(92, 1, 0, 0, 0, 0, .aload_n 0), (93, 3, 3, 1, 1132, 2, .getfield 18), (96, 2, 0, 0, 0, 0, .iload 5), (98, 2, 0, 0, 0, 122, .bipush 122), (100, 3, 107, 0, 0, 0, .if_icmp .ne 7)] cs ss L st h) : G Text_parseInto d mc ms cs ss 92 L st h Q := G.run (by decide +kernel) hw
theorem B_Text_parseInto_103 {d mc ms cs ss : Nat} {L : List (Option Value)} {st : List Value} {h : g_H} {Q : g_Po} (hw : g_wp Text_parseInto d mc ms Q 107 [(103, 1, 0, 0, 0, 1, .iconst 1), (104, 3, 108, 0, 0, 0, .goto 4)] cs ss L st h) : G Text_parseInto d mc ms cs ss 103 L st h Q := G.run (by decide +kernel) hw
theorem B_Text_parseInto_107 {d mc ms cs ss : Nat} {L : List (Option Value)} {st : List Value} {h : g_H} {Q : g_Po} (hw : g_wp Text_parseInto d mc ms Q 108 [(107, 1, 0, 0, 0, 0, .iconst 0)] cs ss L st h) : G Text_parseInto d mc ms cs ss 107 L st h Q := G.run (by decide +kernel) hw
theorem B_Text_parseInto_108 {d mc ms cs ss : Nat} {L : List (Option Value)} {st : List Value} {h : g_H} {Q : g_Po} (hw : g_wp Text_parseInto d mc ms Q 111 [(108, 3, 2, 2, 1047, 1, .putfield 46)] cs ss L st h) : G Text_parseInto d mc ms cs ss 108 L st h Q := G.run (by decide +kernel) hw
theorem B_Text_parseInto_111 {d mc ms cs ss : Nat} {L : List (Option Value)} {st : List Value} {h : g_H} {Q : g_Po} (hw : g_wp Text_parseInto d mc ms Q 120 [(111, 1, 0, 0, 0, 0, .iconst 0), (112, 1, 0, 0, 0, 0, .istore_n 3), (113, 2, 0, 0, 0, 0, .iload 5), (115, 2, 0, 0, 0, 59, .bipush 59), (117, 3, 135, 0, 0, 0, .if_icmp .ne 18)] cs ss L st h) : G Text_parseInto d mc ms cs ss 111 L st h Q := G.run (by decide +kernel) hw
theorem B_Text_parseInto_120 {d mc ms cs ss : Nat} {L : List (Option Value)} {st : List Value} {h : g_H} {Q : g_Po} (hw : g_wp Text_parseInto d mc ms Q 128 [(120, 1, 0, 0, 0, 0, .aload_n 1), (121, 1, 0, 0, 0, 0, .aload_n 0), (122, 3, 3, 1, 1132, 2, .getfield 18), (125, 3, 2, 0, 3119, 1, .invokevirtual 60)] cs ss L st h) : G Text_parseInto d mc ms cs ss 120 L st h Q := G.run (by decide +kernel) hw
theorem B_Text_parseInto_128 {d mc ms cs ss : Nat} {L : List (Option Value)} {st : List Value} {h : g_H} {Q : g_Po} (hw : g_wp Text_parseInto d mc ms Q 135 [(128, 1, 0, 0, 0, 0, .aload_n 0), (129, 3, 3, 1, 1132, 2, .getfield 18), (132, 3, 37, 2, 3116, 0, .invokevirtual 43)] cs ss L st h) : G Text_parseInto d mc ms cs ss 128 L st h Q := G.run (by decide +kernel) hw
theorem B_Text_parseInto_135 {d mc ms cs ss : Nat} {L : List (Option Value)} {st : List Value} {h : g_H} {Q : g_Po} (hw : g_wp Text_parseInto d mc ms Q 141 [(135, 3, 0, 0, 0, 1, .iinc 4 1), (138, 3, 19, 0, 0, 0, .goto (-119))] cs ss L st h) : G Text_parseInto d mc ms cs ss 135 L st h Q := G.run (by decide +kernel) hw
theorem B_Text_parseInto_141 {d mc ms cs ss : Nat} {L : List (Option Value)} {st : List Value} {h : g_H} {Q : g_Po} (hw : g_wp Text_parseInto d mc ms Q 151 [(141, 1, 0, 0, 0, 0, .aload_n 0), (142, 3, 3, 1, 1132, 2, .getfield 18), (145, 3, 2, 2, 1047, 1, .getfield 46), (148, 3, 163, 0, 0, 0, .ifCond .ne 15)] cs ss L st h) : G Text_parseInto d mc ms cs ss 141 L st h Q := G.run (by decide +kernel) hw
theorem B_Text_parseInto_151 {d mc ms cs ss : Nat} {L : List (Option Value)} {st : List Value} {h : g_H} {Q : g_Po} (hw : g_wp Text_parseInto d mc ms Q 160 [(151, 1, 0, 0, 0, 0, .aload_n 0), (152, 3, 3, 1, 1132, 2, .getfield 18), (155, 1, 0, 0, 0, 0, .iload_n 2), (156, 1, 0, 0, 0, 0, .iload_n 3), (157, 3, 26, 0, 3117, 2, .invokestatic 50)] cs ss L st h) : G Text_parseInto d mc ms cs ss 151 L st h Q := G.run (by decide +kernel) hw
theorem B_Text_parseInto_160 {d mc ms cs ss : Nat} {L : List (Option Value)} {st : List Value} {h : g_H} {Q : g_Po} (hw : g_wp Text_parseInto d mc ms Q 163 [(160, 3, 36, 2, 3118, 1, .invokevirtual 56)] cs ss L st h) : G Text_parseInto d mc ms cs ss 160 L st h Q := G.run (by decide +kernel) hw
theorem B_Text_parseInto_163 {d mc ms cs ss : Nat} {L : List (Option Value)} {st : List Value} {h : g_H} {Q : g_Po} (hw : g_wp Text_parseInto d mc ms Q 171 [(163, 1, 0, 0, 0, 0, .aload_n 1), (164, 1, 0, 0, 0, 0, .aload_n 0), (165, 3, 3, 1, 1132, 2, .getfield 18), (168, 3, 2, 0, 3119, 1, .invokevirtual 60)] cs ss L st h) : G Text_parseInto d mc ms cs ss 163 L st h Q := G.run (by decide +kernel) hw
theorem B_Text_parseInto_171 {d mc ms cs ss : Nat} {L : List (Option Value)} {st : List Value} {h : g_H} {Q : g_Po} (hw : g_wp Text_parseInto d mc ms Q 172 [(171, 1, 0, 0, 0, 0, .return_)] cs ss L st h) : G Text_parseInto d mc ms cs ss 171 L st h Q := G.run (by decide +kernel) hw
theorem Txt_add_c {d a : Nat} {c : Int} {T : List Int} {h : g_H} {Q : g_Po} (ha : txt h a T) (hl : T.length < 80) (hc : 0 ≤ c ∧ c ≤ 126) (hQ : ∀ h', chg a (a + 4) h h' → txt h' a (T ++ [c]) → Q none h') : Call Text_add d 0 0 [.ref a, .int (I c)] h Q := by
  obtain ⟨q1, q2, ⟨f, q3, q4⟩, q5⟩ := id ha
  have k1 : ∀ h v, (List.set h (a + 1) v : g_H)[a]? = h[a]? := hs_ne (by omega)
  refine Call.intro (by rfl) (Nat.le_of_ble_eq_true rfl) ?_
  refine G.eqL (L := [some (.ref _), some (.int _)]) rfl ?_
  refine B_Text_add_0 ?_
  simp only [wp_cons, wp_nil, List.getElem?_cons_zero, List.getElem?_cons_succ, List.set_cons_zero, List.set_cons_succ, s_aload_n0, ldA_r, ldA_n, s_getfield, pR_s, ob_s, gt_s, s_ifCond_lt, p1_s, true_and, and_true, Nat.le_refl, true_implies, forall_const, not_false_eq_true, false_implies, not_true_eq_false, reduceCtorEq, tl_s, tl_n, rf_s, List.cons_append, List.nil_append, true_or, or_true, q2, q3, k1, ch_nar hc, ex_ix (i := T.length) (n := 80) (by omega), ex_iy (i := T.length) (n := 80) (by omega), Nat.reduceLT, Nat.reduceAdd]
  refine b_lt (by omega) (by omega) (fun cc => absurd cc (by omega)) (fun cc => ?_)
  refine B_Text_add_7 ?_
  simp only [wp_cons, wp_nil, List.getElem?_cons_zero, List.getElem?_cons_succ, List.set_cons_zero, List.set_cons_succ, s_aload_n0, ldA_r, ldA_n, s_getfield, pR_s, ob_s, gt_s, s_arraylength, al_0, al_1, al_2, al_3, s_if_icmp_ge, p2_s, true_and, and_true, Nat.le_refl, true_implies, forall_const, not_false_eq_true, false_implies, not_true_eq_false, reduceCtorEq, tl_s, tl_n, rf_s, List.cons_append, List.nil_append, true_or, or_true, q2, q3, k1, ch_nar hc, ex_ix (i := T.length) (n := 80) (by omega), ex_iy (i := T.length) (n := 80) (by omega), Nat.reduceLT, Nat.reduceAdd]
  refine b_le (by omega) (by omega) (fun cc => absurd cc (by omega)) (fun cc => ?_)
  refine B_Text_add_19 ?_
  simp only [wp_cons, wp_nil, List.getElem?_cons_zero, List.getElem?_cons_succ, List.set_cons_zero, List.set_cons_succ, s_aload_n0, ldA_r, ldA_n, s_getfield, pR_s, ob_s, gt_s, s_iload_n1, ldI_s, s_castore, iiR_s, ia_s, s_dup, p1v_i, p1v_r, s_iconst, s_iadd, p2_s, I_add, s_putfield, pv_i, pv_z, pv_r, pv_f, z_01, z_11, List.length_cons, List.length_nil, true_and, and_true, Nat.le_refl, true_implies, forall_const, not_false_eq_true, false_implies, not_true_eq_false, reduceCtorEq, tl_s, tl_n, rf_s, List.cons_append, List.nil_append, true_or, or_true, q2, q3, k1, ch_nar hc, ex_ix (i := T.length) (n := 80) (by omega), ex_iy (i := T.length) (n := 80) (by omega), Nat.reduceLT, Nat.reduceAdd]
  refine B_Text_add_39 ?_
  simp only [wp_cons, wp_nil, List.getElem?_cons_zero, List.getElem?_cons_succ, List.set_cons_zero, List.set_cons_succ, s_return_, rt_Text_add, true_and, and_true, Nat.le_refl, true_implies, forall_const, not_false_eq_true, false_implies, not_true_eq_false, reduceCtorEq, tl_s, tl_n, rf_s, List.cons_append, List.nil_append, true_or, or_true, q2, q3, k1, ch_nar hc, ex_ix (i := T.length) (n := 80) (by omega), ex_iy (i := T.length) (n := 80) (by omega), Nat.reduceLT, Nat.reduceAdd]
  have c0 : ∀ v, chg (a + 1) (a + 2) h (h.set (a + 1) v) := fun v => chg.set _ (by omega)
  have e1 : (h.set (a + 1) (.inl (1, 80, upd f T.length (I c))))[a]? = some (.inr (.inr (3, [.ref (a + 1), .ref (a + 2), .int (I (T.length : Int))]))) := by rw [k1, q2]
  refine hQ _ (((c0 _).wd (by omega) (by omega)).tr (chg.set _ (by omega))) ⟨by simp; omega, ?_, ⟨upd f T.length (I c), ?_, fun i hi => ?_⟩, (q5.kp (c0 _) (by omega)).kp (chg.set (lo := a) (hi := a + 1) _ (by omega)) (by omega)⟩
  · rw [h_at _ e1]; simp
  · rw [h_ne _ (by omega), h_at _ q3]
  · simp at hi
    by_cases e : i = T.length
    · rw [e, upd_same, pg_app_r _ _ (Nat.le_refl _), Nat.sub_self]; rfl
    · rw [upd_ne _ _ e, pg_app_l _ _ (by omega), q4 i (by omega)]
theorem Txt_sign_c {d a i : Nat} {T : List Int} {h : g_H} {Q : g_Po} (ha : txt h a T) (w : wfT T) (hi : i < T.length) (hQ : Q (some (.int (I (pg T i)))) h) : Call Text_signAt d 0 0 [.ref a, .int (I (i : Int))] h Q := by
  obtain ⟨q1, q2, ⟨f, q3, q4⟩, q5⟩ := id ha
  have w1 := w.2 i hi
  refine Call.intro (by rfl) (Nat.le_of_ble_eq_true rfl) ?_
  refine G.eqL (L := [some (.ref _), some (.int _)]) rfl ?_
  refine B_Text_signAt_0 ?_
  simp only [wp_cons, wp_nil, List.getElem?_cons_zero, List.getElem?_cons_succ, List.set_cons_zero, List.set_cons_succ, s_iload_n1, ldI_s, s_ifCond_lt, p1_s, true_and, and_true, Nat.le_refl, true_implies, forall_const, not_false_eq_true, false_implies, not_true_eq_false, reduceCtorEq, tl_s, tl_n, rf_s, List.cons_append, List.nil_append, true_or, or_true, q2, q3, q4 i hi, ex_ix (i := i) (n := 80) (by omega), ch_okI (c := pg T i) (by omega)]
  refine b_lt (by omega) (by omega) (fun cc => absurd cc (by omega)) (fun cc => ?_)
  refine B_Text_signAt_4 ?_
  simp only [wp_cons, wp_nil, List.getElem?_cons_zero, List.getElem?_cons_succ, List.set_cons_zero, List.set_cons_succ, s_iload_n1, ldI_s, s_aload_n0, ldA_r, ldA_n, s_getfield, pR_s, ob_s, gt_s, s_arraylength, al_0, al_1, al_2, al_3, s_if_icmp_ge, p2_s, true_and, and_true, Nat.le_refl, true_implies, forall_const, not_false_eq_true, false_implies, not_true_eq_false, reduceCtorEq, tl_s, tl_n, rf_s, List.cons_append, List.nil_append, true_or, or_true, q2, q3, q4 i hi, ex_ix (i := i) (n := 80) (by omega), ch_okI (c := pg T i) (by omega)]
  refine b_le (by omega) (by omega) (fun cc => absurd cc (by omega)) (fun cc => ?_)
  refine B_Text_signAt_13 ?_
  simp only [wp_cons, wp_nil, List.getElem?_cons_zero, List.getElem?_cons_succ, List.set_cons_zero, List.set_cons_succ, s_aload_n0, ldA_r, ldA_n, s_getfield, pR_s, ob_s, gt_s, s_iload_n1, ldI_s, s_caload, iR_s, ia_s, s_goto, true_and, and_true, Nat.le_refl, true_implies, forall_const, not_false_eq_true, false_implies, not_true_eq_false, reduceCtorEq, tl_s, tl_n, rf_s, List.cons_append, List.nil_append, true_or, or_true, q2, q3, q4 i hi, ex_ix (i := i) (n := 80) (by omega), ch_okI (c := pg T i) (by omega)]
  refine B_Text_signAt_23 ?_
  simp only [wp_cons, wp_nil, List.getElem?_cons_zero, List.getElem?_cons_succ, List.set_cons_zero, List.set_cons_succ, s_ireturn, p1_s, rI_i, rI_z, rI_c, z_01, z_11, rt_Text_signAt, true_and, and_true, Nat.le_refl, true_implies, forall_const, not_false_eq_true, false_implies, not_true_eq_false, reduceCtorEq, tl_s, tl_n, rf_s, List.cons_append, List.nil_append, true_or, or_true, q2, q3, q4 i hi, ex_ix (i := i) (n := 80) (by omega), ch_okI (c := pg T i) (by omega)]
  exact hQ
theorem Txt_dig_c {d : Nat} {c : Int} {h : g_H} {Q : g_Po} (hc : 0 ≤ c ∧ c ≤ 126) (hT : (48 ≤ c ∧ c ≤ 57) → Q (some (.int (I 1))) h) (hF : ¬ (48 ≤ c ∧ c ≤ 57) → Q (some (.int (I 0))) h) : Call Text_isDigit d 0 0 [.int (I c)] h Q := by
  refine Call.intro (by rfl) (Nat.le_of_ble_eq_true rfl) ?_
  refine G.eqL (L := [some (.int _)]) rfl ?_
  refine B_Text_isDigit_0 ?_
  simp only [wp_cons, wp_nil, List.getElem?_cons_zero, List.getElem?_cons_succ, List.set_cons_zero, List.set_cons_succ, s_iload_n0, ldI_s, s_bipush, s_if_icmp_lt, p2_s, true_and, and_true, Nat.le_refl, true_implies, forall_const, not_false_eq_true, false_implies, not_true_eq_false, reduceCtorEq, tl_s, tl_n, rf_s, List.cons_append, List.nil_append, true_or, or_true]
  refine b_lt (by omega) (by omega) (fun c => ?_) (fun c => ?_)
  · refine B_Text_isDigit_16 ?_
    simp only [wp_cons, wp_nil, List.getElem?_cons_zero, List.getElem?_cons_succ, List.set_cons_zero, List.set_cons_succ, s_iconst, true_and, and_true, Nat.le_refl, true_implies, forall_const, not_false_eq_true, false_implies, not_true_eq_false, reduceCtorEq, tl_s, tl_n, rf_s, List.cons_append, List.nil_append, true_or, or_true]
    refine B_Text_isDigit_17 ?_
    simp only [wp_cons, wp_nil, List.getElem?_cons_zero, List.getElem?_cons_succ, List.set_cons_zero, List.set_cons_succ, s_ireturn, p1_s, rI_i, rI_z, rI_c, z_01, z_11, rt_Text_isDigit, true_and, and_true, Nat.le_refl, true_implies, forall_const, not_false_eq_true, false_implies, not_true_eq_false, reduceCtorEq, tl_s, tl_n, rf_s, List.cons_append, List.nil_append, true_or, or_true]
    exact hF (by omega)
  · refine B_Text_isDigit_6 ?_
    simp only [wp_cons, wp_nil, List.getElem?_cons_zero, List.getElem?_cons_succ, List.set_cons_zero, List.set_cons_succ, s_iload_n0, ldI_s, s_bipush, s_if_icmp_gt, p2_s, true_and, and_true, Nat.le_refl, true_implies, forall_const, not_false_eq_true, false_implies, not_true_eq_false, reduceCtorEq, tl_s, tl_n, rf_s, List.cons_append, List.nil_append, true_or, or_true]
    refine b_lt (by omega) (by omega) (fun c => ?_) (fun c => ?_)
    · refine B_Text_isDigit_16 ?_
      simp only [wp_cons, wp_nil, List.getElem?_cons_zero, List.getElem?_cons_succ, List.set_cons_zero, List.set_cons_succ, s_iconst, true_and, and_true, Nat.le_refl, true_implies, forall_const, not_false_eq_true, false_implies, not_true_eq_false, reduceCtorEq, tl_s, tl_n, rf_s, List.cons_append, List.nil_append, true_or, or_true]
      refine B_Text_isDigit_17 ?_
      simp only [wp_cons, wp_nil, List.getElem?_cons_zero, List.getElem?_cons_succ, List.set_cons_zero, List.set_cons_succ, s_ireturn, p1_s, rI_i, rI_z, rI_c, z_01, z_11, rt_Text_isDigit, true_and, and_true, Nat.le_refl, true_implies, forall_const, not_false_eq_true, false_implies, not_true_eq_false, reduceCtorEq, tl_s, tl_n, rf_s, List.cons_append, List.nil_append, true_or, or_true]
      exact hF (by omega)
    · refine B_Text_isDigit_12 ?_
      simp only [wp_cons, wp_nil, List.getElem?_cons_zero, List.getElem?_cons_succ, List.set_cons_zero, List.set_cons_succ, s_iconst, s_goto, true_and, and_true, Nat.le_refl, true_implies, forall_const, not_false_eq_true, false_implies, not_true_eq_false, reduceCtorEq, tl_s, tl_n, rf_s, List.cons_append, List.nil_append, true_or, or_true]
      refine B_Text_isDigit_17 ?_
      simp only [wp_cons, wp_nil, List.getElem?_cons_zero, List.getElem?_cons_succ, List.set_cons_zero, List.set_cons_succ, s_ireturn, p1_s, rI_i, rI_z, rI_c, z_01, z_11, rt_Text_isDigit, true_and, and_true, Nat.le_refl, true_implies, forall_const, not_false_eq_true, false_implies, not_true_eq_false, reduceCtorEq, tl_s, tl_n, rf_s, List.cons_append, List.nil_append, true_or, or_true]
      exact hT (by omega)
theorem Txt_next_c {d : Nat} {s c p : Int} {h : g_H} {Q : g_Po} (d1 : 1 ≤ d) (hs : 0 ≤ s ∧ s ≤ 8) (hc : 0 ≤ c ∧ c ≤ 126) (hp : i32 p) (hQ : Q (some (.int (I (nst s c p)))) h) : Call Text_nextState d 0 0 [.int (I s), .int (I c), .int (I p)] h Q := by
  unfold nst at hQ
  refine Call.intro (by rfl) (Nat.le_of_ble_eq_true rfl) ?_
  refine G.eqL (L := [some (.int _), some (.int _), some (.int _)]) rfl ?_
  refine B_Text_nextState_0 ?_
  simp only [wp_cons, wp_nil, List.getElem?_cons_zero, List.getElem?_cons_succ, List.set_cons_zero, List.set_cons_succ, s_iload_n1, ldI_s, s_invokestatic, rc_s, ob_s, List.drop_succ_cons, List.drop_zero, List.take_succ_cons, List.take_zero, List.reverse_cons, List.reverse_nil, List.nil_append, List.cons_append, List.length_cons, List.length_nil, Nat.reduceEqDiff, reduceIte, p1_s, p2_s, l1_s, d1, Int.reduceToNat, Nat.reduceAdd, Nat.reduceLeDiff, true_and, and_true, Nat.le_refl, true_implies, forall_const, not_false_eq_true, false_implies, not_true_eq_false, reduceCtorEq, tl_s, tl_n, rf_s, true_or, or_true]
  refine Txt_dig_c hc (fun c1 => ?_) (fun c1 => ?_)
  · rw [if_pos c1] at hQ
    by_cases c2 : s = 3
    · rw [if_pos (Or.inl c2)] at hQ
      refine B_Text_nextState_4 ?_
      simp only [wp_cons, wp_nil, List.getElem?_cons_zero, List.getElem?_cons_succ, List.set_cons_zero, List.set_cons_succ, s_ifCond_eq, p1_s, true_and, and_true, Nat.le_refl, true_implies, forall_const, not_false_eq_true, false_implies, not_true_eq_false, reduceCtorEq, tl_s, tl_n, rf_s, List.cons_append, List.nil_append, true_or, or_true]
      refine b_eq (by omega) (by omega) (fun cc => absurd cc (by omega)) (fun cc => ?_)
      refine B_Text_nextState_7 ?_
      simp only [wp_cons, wp_nil, List.getElem?_cons_zero, List.getElem?_cons_succ, List.set_cons_zero, List.set_cons_succ, s_iload_n0, ldI_s, s_iconst, s_if_icmp_eq, p2_s, true_and, and_true, Nat.le_refl, true_implies, forall_const, not_false_eq_true, false_implies, not_true_eq_false, reduceCtorEq, tl_s, tl_n, rf_s, List.cons_append, List.nil_append, true_or, or_true]
      refine b_eq (by omega) (by omega) (fun cc => ?_) (fun cc => absurd cc (by omega))
      refine B_Text_nextState_18 ?_
      simp only [wp_cons, wp_nil, List.getElem?_cons_zero, List.getElem?_cons_succ, List.set_cons_zero, List.set_cons_succ, s_iconst, s_goto, true_and, and_true, Nat.le_refl, true_implies, forall_const, not_false_eq_true, false_implies, not_true_eq_false, reduceCtorEq, tl_s, tl_n, rf_s, List.cons_append, List.nil_append, true_or, or_true]
      refine B_Text_nextState_25 ?_
      simp only [wp_cons, wp_nil, List.getElem?_cons_zero, List.getElem?_cons_succ, List.set_cons_zero, List.set_cons_succ, s_ireturn, p1_s, rI_i, rI_z, rI_c, z_01, z_11, rt_Text_nextState, true_and, and_true, Nat.le_refl, true_implies, forall_const, not_false_eq_true, false_implies, not_true_eq_false, reduceCtorEq, tl_s, tl_n, rf_s, List.cons_append, List.nil_append, true_or, or_true]
      exact hQ
    · by_cases c3 : 7 ≤ s
      · rw [if_pos (Or.inr c3)] at hQ
        refine B_Text_nextState_4 ?_
        simp only [wp_cons, wp_nil, List.getElem?_cons_zero, List.getElem?_cons_succ, List.set_cons_zero, List.set_cons_succ, s_ifCond_eq, p1_s, true_and, and_true, Nat.le_refl, true_implies, forall_const, not_false_eq_true, false_implies, not_true_eq_false, reduceCtorEq, tl_s, tl_n, rf_s, List.cons_append, List.nil_append, true_or, or_true]
        refine b_eq (by omega) (by omega) (fun cc => absurd cc (by omega)) (fun cc => ?_)
        refine B_Text_nextState_7 ?_
        simp only [wp_cons, wp_nil, List.getElem?_cons_zero, List.getElem?_cons_succ, List.set_cons_zero, List.set_cons_succ, s_iload_n0, ldI_s, s_iconst, s_if_icmp_eq, p2_s, true_and, and_true, Nat.le_refl, true_implies, forall_const, not_false_eq_true, false_implies, not_true_eq_false, reduceCtorEq, tl_s, tl_n, rf_s, List.cons_append, List.nil_append, true_or, or_true]
        refine b_eq (by omega) (by omega) (fun cc => absurd cc (by omega)) (fun cc => ?_)
        refine B_Text_nextState_12 ?_
        simp only [wp_cons, wp_nil, List.getElem?_cons_zero, List.getElem?_cons_succ, List.set_cons_zero, List.set_cons_succ, s_iload_n0, ldI_s, s_bipush, s_if_icmp_lt, p2_s, true_and, and_true, Nat.le_refl, true_implies, forall_const, not_false_eq_true, false_implies, not_true_eq_false, reduceCtorEq, tl_s, tl_n, rf_s, List.cons_append, List.nil_append, true_or, or_true]
        refine b_lt (by omega) (by omega) (fun cc => absurd cc (by omega)) (fun cc => ?_)
        refine B_Text_nextState_18 ?_
        simp only [wp_cons, wp_nil, List.getElem?_cons_zero, List.getElem?_cons_succ, List.set_cons_zero, List.set_cons_succ, s_iconst, s_goto, true_and, and_true, Nat.le_refl, true_implies, forall_const, not_false_eq_true, false_implies, not_true_eq_false, reduceCtorEq, tl_s, tl_n, rf_s, List.cons_append, List.nil_append, true_or, or_true]
        refine B_Text_nextState_25 ?_
        simp only [wp_cons, wp_nil, List.getElem?_cons_zero, List.getElem?_cons_succ, List.set_cons_zero, List.set_cons_succ, s_ireturn, p1_s, rI_i, rI_z, rI_c, z_01, z_11, rt_Text_nextState, true_and, and_true, Nat.le_refl, true_implies, forall_const, not_false_eq_true, false_implies, not_true_eq_false, reduceCtorEq, tl_s, tl_n, rf_s, List.cons_append, List.nil_append, true_or, or_true]
        exact hQ
      · rw [if_neg (by omega)] at hQ
        refine B_Text_nextState_4 ?_
        simp only [wp_cons, wp_nil, List.getElem?_cons_zero, List.getElem?_cons_succ, List.set_cons_zero, List.set_cons_succ, s_ifCond_eq, p1_s, true_and, and_true, Nat.le_refl, true_implies, forall_const, not_false_eq_true, false_implies, not_true_eq_false, reduceCtorEq, tl_s, tl_n, rf_s, List.cons_append, List.nil_append, true_or, or_true]
        refine b_eq (by omega) (by omega) (fun cc => absurd cc (by omega)) (fun cc => ?_)
        refine B_Text_nextState_7 ?_
        simp only [wp_cons, wp_nil, List.getElem?_cons_zero, List.getElem?_cons_succ, List.set_cons_zero, List.set_cons_succ, s_iload_n0, ldI_s, s_iconst, s_if_icmp_eq, p2_s, true_and, and_true, Nat.le_refl, true_implies, forall_const, not_false_eq_true, false_implies, not_true_eq_false, reduceCtorEq, tl_s, tl_n, rf_s, List.cons_append, List.nil_append, true_or, or_true]
        refine b_eq (by omega) (by omega) (fun cc => absurd cc (by omega)) (fun cc => ?_)
        refine B_Text_nextState_12 ?_
        simp only [wp_cons, wp_nil, List.getElem?_cons_zero, List.getElem?_cons_succ, List.set_cons_zero, List.set_cons_succ, s_iload_n0, ldI_s, s_bipush, s_if_icmp_lt, p2_s, true_and, and_true, Nat.le_refl, true_implies, forall_const, not_false_eq_true, false_implies, not_true_eq_false, reduceCtorEq, tl_s, tl_n, rf_s, List.cons_append, List.nil_append, true_or, or_true]
        refine b_lt (by omega) (by omega) (fun cc => ?_) (fun cc => absurd cc (by omega))
        refine B_Text_nextState_22 ?_
        simp only [wp_cons, wp_nil, List.getElem?_cons_zero, List.getElem?_cons_succ, List.set_cons_zero, List.set_cons_succ, s_iload_n0, ldI_s, s_iconst, s_iadd, p2_s, I_add, true_and, and_true, Nat.le_refl, true_implies, forall_const, not_false_eq_true, false_implies, not_true_eq_false, reduceCtorEq, tl_s, tl_n, rf_s, List.cons_append, List.nil_append, true_or, or_true]
        refine B_Text_nextState_25 ?_
        simp only [wp_cons, wp_nil, List.getElem?_cons_zero, List.getElem?_cons_succ, List.set_cons_zero, List.set_cons_succ, s_ireturn, p1_s, rI_i, rI_z, rI_c, z_01, z_11, rt_Text_nextState, true_and, and_true, Nat.le_refl, true_implies, forall_const, not_false_eq_true, false_implies, not_true_eq_false, reduceCtorEq, tl_s, tl_n, rf_s, List.cons_append, List.nil_append, true_or, or_true]
        exact hQ
  · rw [if_neg c1] at hQ
    by_cases c2 : c = 44
    · rw [if_pos c2] at hQ
      by_cases c3 : 0 < s ∧ s ≤ 3
      · rw [if_pos c3] at hQ
        refine B_Text_nextState_4 ?_
        simp only [wp_cons, wp_nil, List.getElem?_cons_zero, List.getElem?_cons_succ, List.set_cons_zero, List.set_cons_succ, s_ifCond_eq, p1_s, true_and, and_true, Nat.le_refl, true_implies, forall_const, not_false_eq_true, false_implies, not_true_eq_false, reduceCtorEq, tl_s, tl_n, rf_s, List.cons_append, List.nil_append, true_or, or_true]
        refine B_Text_nextState_26 ?_
        simp only [wp_cons, wp_nil, List.getElem?_cons_zero, List.getElem?_cons_succ, List.set_cons_zero, List.set_cons_succ, s_iload_n1, ldI_s, s_bipush, s_if_icmp_ne, p2_s, true_and, and_true, Nat.le_refl, true_implies, forall_const, not_false_eq_true, false_implies, not_true_eq_false, reduceCtorEq, tl_s, tl_n, rf_s, List.cons_append, List.nil_append, true_or, or_true]
        refine b_ne (by omega) (by omega) (fun cc => absurd cc (by omega)) (fun cc => ?_)
        refine B_Text_nextState_32 ?_
        simp only [wp_cons, wp_nil, List.getElem?_cons_zero, List.getElem?_cons_succ, List.set_cons_zero, List.set_cons_succ, s_iload_n0, ldI_s, s_ifCond_le, p1_s, true_and, and_true, Nat.le_refl, true_implies, forall_const, not_false_eq_true, false_implies, not_true_eq_false, reduceCtorEq, tl_s, tl_n, rf_s, List.cons_append, List.nil_append, true_or, or_true]
        refine b_le (by omega) (by omega) (fun cc => absurd cc (by omega)) (fun cc => ?_)
        refine B_Text_nextState_36 ?_
        simp only [wp_cons, wp_nil, List.getElem?_cons_zero, List.getElem?_cons_succ, List.set_cons_zero, List.set_cons_succ, s_iload_n0, ldI_s, s_iconst, s_if_icmp_gt, p2_s, true_and, and_true, Nat.le_refl, true_implies, forall_const, not_false_eq_true, false_implies, not_true_eq_false, reduceCtorEq, tl_s, tl_n, rf_s, List.cons_append, List.nil_append, true_or, or_true]
        refine b_lt (by omega) (by omega) (fun cc => absurd cc (by omega)) (fun cc => ?_)
        refine B_Text_nextState_41 ?_
        simp only [wp_cons, wp_nil, List.getElem?_cons_zero, List.getElem?_cons_succ, List.set_cons_zero, List.set_cons_succ, s_iconst, s_goto, true_and, and_true, Nat.le_refl, true_implies, forall_const, not_false_eq_true, false_implies, not_true_eq_false, reduceCtorEq, tl_s, tl_n, rf_s, List.cons_append, List.nil_append, true_or, or_true]
        refine B_Text_nextState_46 ?_
        simp only [wp_cons, wp_nil, List.getElem?_cons_zero, List.getElem?_cons_succ, List.set_cons_zero, List.set_cons_succ, s_ireturn, p1_s, rI_i, rI_z, rI_c, z_01, z_11, rt_Text_nextState, true_and, and_true, Nat.le_refl, true_implies, forall_const, not_false_eq_true, false_implies, not_true_eq_false, reduceCtorEq, tl_s, tl_n, rf_s, List.cons_append, List.nil_append, true_or, or_true]
        exact hQ
      · rw [if_neg c3] at hQ
        by_cases c4 : s ≤ 0
        · refine B_Text_nextState_4 ?_
          simp only [wp_cons, wp_nil, List.getElem?_cons_zero, List.getElem?_cons_succ, List.set_cons_zero, List.set_cons_succ, s_ifCond_eq, p1_s, true_and, and_true, Nat.le_refl, true_implies, forall_const, not_false_eq_true, false_implies, not_true_eq_false, reduceCtorEq, tl_s, tl_n, rf_s, List.cons_append, List.nil_append, true_or, or_true]
          refine B_Text_nextState_26 ?_
          simp only [wp_cons, wp_nil, List.getElem?_cons_zero, List.getElem?_cons_succ, List.set_cons_zero, List.set_cons_succ, s_iload_n1, ldI_s, s_bipush, s_if_icmp_ne, p2_s, true_and, and_true, Nat.le_refl, true_implies, forall_const, not_false_eq_true, false_implies, not_true_eq_false, reduceCtorEq, tl_s, tl_n, rf_s, List.cons_append, List.nil_append, true_or, or_true]
          refine b_ne (by omega) (by omega) (fun cc => absurd cc (by omega)) (fun cc => ?_)
          refine B_Text_nextState_32 ?_
          simp only [wp_cons, wp_nil, List.getElem?_cons_zero, List.getElem?_cons_succ, List.set_cons_zero, List.set_cons_succ, s_iload_n0, ldI_s, s_ifCond_le, p1_s, true_and, and_true, Nat.le_refl, true_implies, forall_const, not_false_eq_true, false_implies, not_true_eq_false, reduceCtorEq, tl_s, tl_n, rf_s, List.cons_append, List.nil_append, true_or, or_true]
          refine b_le (by omega) (by omega) (fun cc => ?_) (fun cc => absurd cc (by omega))
          refine B_Text_nextState_45 ?_
          simp only [wp_cons, wp_nil, List.getElem?_cons_zero, List.getElem?_cons_succ, List.set_cons_zero, List.set_cons_succ, s_iconst, true_and, and_true, Nat.le_refl, true_implies, forall_const, not_false_eq_true, false_implies, not_true_eq_false, reduceCtorEq, tl_s, tl_n, rf_s, List.cons_append, List.nil_append, true_or, or_true]
          refine B_Text_nextState_46 ?_
          simp only [wp_cons, wp_nil, List.getElem?_cons_zero, List.getElem?_cons_succ, List.set_cons_zero, List.set_cons_succ, s_ireturn, p1_s, rI_i, rI_z, rI_c, z_01, z_11, rt_Text_nextState, true_and, and_true, Nat.le_refl, true_implies, forall_const, not_false_eq_true, false_implies, not_true_eq_false, reduceCtorEq, tl_s, tl_n, rf_s, List.cons_append, List.nil_append, true_or, or_true]
          exact hQ
        · refine B_Text_nextState_4 ?_
          simp only [wp_cons, wp_nil, List.getElem?_cons_zero, List.getElem?_cons_succ, List.set_cons_zero, List.set_cons_succ, s_ifCond_eq, p1_s, true_and, and_true, Nat.le_refl, true_implies, forall_const, not_false_eq_true, false_implies, not_true_eq_false, reduceCtorEq, tl_s, tl_n, rf_s, List.cons_append, List.nil_append, true_or, or_true]
          refine B_Text_nextState_26 ?_
          simp only [wp_cons, wp_nil, List.getElem?_cons_zero, List.getElem?_cons_succ, List.set_cons_zero, List.set_cons_succ, s_iload_n1, ldI_s, s_bipush, s_if_icmp_ne, p2_s, true_and, and_true, Nat.le_refl, true_implies, forall_const, not_false_eq_true, false_implies, not_true_eq_false, reduceCtorEq, tl_s, tl_n, rf_s, List.cons_append, List.nil_append, true_or, or_true]
          refine b_ne (by omega) (by omega) (fun cc => absurd cc (by omega)) (fun cc => ?_)
          refine B_Text_nextState_32 ?_
          simp only [wp_cons, wp_nil, List.getElem?_cons_zero, List.getElem?_cons_succ, List.set_cons_zero, List.set_cons_succ, s_iload_n0, ldI_s, s_ifCond_le, p1_s, true_and, and_true, Nat.le_refl, true_implies, forall_const, not_false_eq_true, false_implies, not_true_eq_false, reduceCtorEq, tl_s, tl_n, rf_s, List.cons_append, List.nil_append, true_or, or_true]
          refine b_le (by omega) (by omega) (fun cc => absurd cc (by omega)) (fun cc => ?_)
          refine B_Text_nextState_36 ?_
          simp only [wp_cons, wp_nil, List.getElem?_cons_zero, List.getElem?_cons_succ, List.set_cons_zero, List.set_cons_succ, s_iload_n0, ldI_s, s_iconst, s_if_icmp_gt, p2_s, true_and, and_true, Nat.le_refl, true_implies, forall_const, not_false_eq_true, false_implies, not_true_eq_false, reduceCtorEq, tl_s, tl_n, rf_s, List.cons_append, List.nil_append, true_or, or_true]
          refine b_lt (by omega) (by omega) (fun cc => ?_) (fun cc => absurd cc (by omega))
          refine B_Text_nextState_45 ?_
          simp only [wp_cons, wp_nil, List.getElem?_cons_zero, List.getElem?_cons_succ, List.set_cons_zero, List.set_cons_succ, s_iconst, true_and, and_true, Nat.le_refl, true_implies, forall_const, not_false_eq_true, false_implies, not_true_eq_false, reduceCtorEq, tl_s, tl_n, rf_s, List.cons_append, List.nil_append, true_or, or_true]
          refine B_Text_nextState_46 ?_
          simp only [wp_cons, wp_nil, List.getElem?_cons_zero, List.getElem?_cons_succ, List.set_cons_zero, List.set_cons_succ, s_ireturn, p1_s, rI_i, rI_z, rI_c, z_01, z_11, rt_Text_nextState, true_and, and_true, Nat.le_refl, true_implies, forall_const, not_false_eq_true, false_implies, not_true_eq_false, reduceCtorEq, tl_s, tl_n, rf_s, List.cons_append, List.nil_append, true_or, or_true]
          exact hQ
    · rw [if_neg c2] at hQ
      by_cases c3 : s ≤ 4
      · rw [if_pos c3] at hQ
        refine B_Text_nextState_4 ?_
        simp only [wp_cons, wp_nil, List.getElem?_cons_zero, List.getElem?_cons_succ, List.set_cons_zero, List.set_cons_succ, s_ifCond_eq, p1_s, true_and, and_true, Nat.le_refl, true_implies, forall_const, not_false_eq_true, false_implies, not_true_eq_false, reduceCtorEq, tl_s, tl_n, rf_s, List.cons_append, List.nil_append, true_or, or_true]
        refine B_Text_nextState_26 ?_
        simp only [wp_cons, wp_nil, List.getElem?_cons_zero, List.getElem?_cons_succ, List.set_cons_zero, List.set_cons_succ, s_iload_n1, ldI_s, s_bipush, s_if_icmp_ne, p2_s, true_and, and_true, Nat.le_refl, true_implies, forall_const, not_false_eq_true, false_implies, not_true_eq_false, reduceCtorEq, tl_s, tl_n, rf_s, List.cons_append, List.nil_append, true_or, or_true]
        refine b_ne (by omega) (by omega) (fun cc => ?_) (fun cc => absurd cc (by omega))
        refine B_Text_nextState_47 ?_
        simp only [wp_cons, wp_nil, List.getElem?_cons_zero, List.getElem?_cons_succ, List.set_cons_zero, List.set_cons_succ, s_iload_n0, ldI_s, s_iconst, s_if_icmp_gt, p2_s, true_and, and_true, Nat.le_refl, true_implies, forall_const, not_false_eq_true, false_implies, not_true_eq_false, reduceCtorEq, tl_s, tl_n, rf_s, List.cons_append, List.nil_append, true_or, or_true]
        refine b_lt (by omega) (by omega) (fun cc => absurd cc (by omega)) (fun cc => ?_)
        refine B_Text_nextState_52 ?_
        simp only [wp_cons, wp_nil, List.getElem?_cons_zero, List.getElem?_cons_succ, List.set_cons_zero, List.set_cons_succ, s_iconst, s_ireturn, p1_s, rI_i, rI_z, rI_c, z_01, z_11, rt_Text_nextState, true_and, and_true, Nat.le_refl, true_implies, forall_const, not_false_eq_true, false_implies, not_true_eq_false, reduceCtorEq, tl_s, tl_n, rf_s, List.cons_append, List.nil_append, true_or, or_true]
        exact hQ
      · rw [if_neg c3] at hQ
        by_cases c4 : c = 59
        · rw [if_pos c4] at hQ
          by_cases c5 : 2 ≤ p
          · rw [if_pos c5] at hQ
            refine B_Text_nextState_4 ?_
            simp only [wp_cons, wp_nil, List.getElem?_cons_zero, List.getElem?_cons_succ, List.set_cons_zero, List.set_cons_succ, s_ifCond_eq, p1_s, true_and, and_true, Nat.le_refl, true_implies, forall_const, not_false_eq_true, false_implies, not_true_eq_false, reduceCtorEq, tl_s, tl_n, rf_s, List.cons_append, List.nil_append, true_or, or_true]
            refine B_Text_nextState_26 ?_
            simp only [wp_cons, wp_nil, List.getElem?_cons_zero, List.getElem?_cons_succ, List.set_cons_zero, List.set_cons_succ, s_iload_n1, ldI_s, s_bipush, s_if_icmp_ne, p2_s, true_and, and_true, Nat.le_refl, true_implies, forall_const, not_false_eq_true, false_implies, not_true_eq_false, reduceCtorEq, tl_s, tl_n, rf_s, List.cons_append, List.nil_append, true_or, or_true]
            refine b_ne (by omega) (by omega) (fun cc => ?_) (fun cc => absurd cc (by omega))
            refine B_Text_nextState_47 ?_
            simp only [wp_cons, wp_nil, List.getElem?_cons_zero, List.getElem?_cons_succ, List.set_cons_zero, List.set_cons_succ, s_iload_n0, ldI_s, s_iconst, s_if_icmp_gt, p2_s, true_and, and_true, Nat.le_refl, true_implies, forall_const, not_false_eq_true, false_implies, not_true_eq_false, reduceCtorEq, tl_s, tl_n, rf_s, List.cons_append, List.nil_append, true_or, or_true]
            refine b_lt (by omega) (by omega) (fun cc => ?_) (fun cc => absurd cc (by omega))
            refine B_Text_nextState_54 ?_
            simp only [wp_cons, wp_nil, List.getElem?_cons_zero, List.getElem?_cons_succ, List.set_cons_zero, List.set_cons_succ, s_iload_n1, ldI_s, s_bipush, s_if_icmp_ne, p2_s, true_and, and_true, Nat.le_refl, true_implies, forall_const, not_false_eq_true, false_implies, not_true_eq_false, reduceCtorEq, tl_s, tl_n, rf_s, List.cons_append, List.nil_append, true_or, or_true]
            refine b_ne (by omega) (by omega) (fun cc => absurd cc (by omega)) (fun cc => ?_)
            refine B_Text_nextState_60 ?_
            simp only [wp_cons, wp_nil, List.getElem?_cons_zero, List.getElem?_cons_succ, List.set_cons_zero, List.set_cons_succ, s_iload_n2, ldI_s, s_iconst, s_if_icmp_lt, p2_s, true_and, and_true, Nat.le_refl, true_implies, forall_const, not_false_eq_true, false_implies, not_true_eq_false, reduceCtorEq, tl_s, tl_n, rf_s, List.cons_append, List.nil_append, true_or, or_true]
            refine b_lt (by omega) (by omega) (fun cc => absurd cc (by omega)) (fun cc => ?_)
            refine B_Text_nextState_65 ?_
            simp only [wp_cons, wp_nil, List.getElem?_cons_zero, List.getElem?_cons_succ, List.set_cons_zero, List.set_cons_succ, s_iconst, s_goto, true_and, and_true, Nat.le_refl, true_implies, forall_const, not_false_eq_true, false_implies, not_true_eq_false, reduceCtorEq, tl_s, tl_n, rf_s, List.cons_append, List.nil_append, true_or, or_true]
            refine B_Text_nextState_70 ?_
            simp only [wp_cons, wp_nil, List.getElem?_cons_zero, List.getElem?_cons_succ, List.set_cons_zero, List.set_cons_succ, s_ireturn, p1_s, rI_i, rI_z, rI_c, z_01, z_11, rt_Text_nextState, true_and, and_true, Nat.le_refl, true_implies, forall_const, not_false_eq_true, false_implies, not_true_eq_false, reduceCtorEq, tl_s, tl_n, rf_s, List.cons_append, List.nil_append, true_or, or_true]
            exact hQ
          · rw [if_neg c5] at hQ
            refine B_Text_nextState_4 ?_
            simp only [wp_cons, wp_nil, List.getElem?_cons_zero, List.getElem?_cons_succ, List.set_cons_zero, List.set_cons_succ, s_ifCond_eq, p1_s, true_and, and_true, Nat.le_refl, true_implies, forall_const, not_false_eq_true, false_implies, not_true_eq_false, reduceCtorEq, tl_s, tl_n, rf_s, List.cons_append, List.nil_append, true_or, or_true]
            refine B_Text_nextState_26 ?_
            simp only [wp_cons, wp_nil, List.getElem?_cons_zero, List.getElem?_cons_succ, List.set_cons_zero, List.set_cons_succ, s_iload_n1, ldI_s, s_bipush, s_if_icmp_ne, p2_s, true_and, and_true, Nat.le_refl, true_implies, forall_const, not_false_eq_true, false_implies, not_true_eq_false, reduceCtorEq, tl_s, tl_n, rf_s, List.cons_append, List.nil_append, true_or, or_true]
            refine b_ne (by omega) (by omega) (fun cc => ?_) (fun cc => absurd cc (by omega))
            refine B_Text_nextState_47 ?_
            simp only [wp_cons, wp_nil, List.getElem?_cons_zero, List.getElem?_cons_succ, List.set_cons_zero, List.set_cons_succ, s_iload_n0, ldI_s, s_iconst, s_if_icmp_gt, p2_s, true_and, and_true, Nat.le_refl, true_implies, forall_const, not_false_eq_true, false_implies, not_true_eq_false, reduceCtorEq, tl_s, tl_n, rf_s, List.cons_append, List.nil_append, true_or, or_true]
            refine b_lt (by omega) (by omega) (fun cc => ?_) (fun cc => absurd cc (by omega))
            refine B_Text_nextState_54 ?_
            simp only [wp_cons, wp_nil, List.getElem?_cons_zero, List.getElem?_cons_succ, List.set_cons_zero, List.set_cons_succ, s_iload_n1, ldI_s, s_bipush, s_if_icmp_ne, p2_s, true_and, and_true, Nat.le_refl, true_implies, forall_const, not_false_eq_true, false_implies, not_true_eq_false, reduceCtorEq, tl_s, tl_n, rf_s, List.cons_append, List.nil_append, true_or, or_true]
            refine b_ne (by omega) (by omega) (fun cc => absurd cc (by omega)) (fun cc => ?_)
            refine B_Text_nextState_60 ?_
            simp only [wp_cons, wp_nil, List.getElem?_cons_zero, List.getElem?_cons_succ, List.set_cons_zero, List.set_cons_succ, s_iload_n2, ldI_s, s_iconst, s_if_icmp_lt, p2_s, true_and, and_true, Nat.le_refl, true_implies, forall_const, not_false_eq_true, false_implies, not_true_eq_false, reduceCtorEq, tl_s, tl_n, rf_s, List.cons_append, List.nil_append, true_or, or_true]
            refine b_lt (by omega) (by omega) (fun cc => ?_) (fun cc => absurd cc (by omega))
            refine B_Text_nextState_69 ?_
            simp only [wp_cons, wp_nil, List.getElem?_cons_zero, List.getElem?_cons_succ, List.set_cons_zero, List.set_cons_succ, s_iconst, true_and, and_true, Nat.le_refl, true_implies, forall_const, not_false_eq_true, false_implies, not_true_eq_false, reduceCtorEq, tl_s, tl_n, rf_s, List.cons_append, List.nil_append, true_or, or_true]
            refine B_Text_nextState_70 ?_
            simp only [wp_cons, wp_nil, List.getElem?_cons_zero, List.getElem?_cons_succ, List.set_cons_zero, List.set_cons_succ, s_ireturn, p1_s, rI_i, rI_z, rI_c, z_01, z_11, rt_Text_nextState, true_and, and_true, Nat.le_refl, true_implies, forall_const, not_false_eq_true, false_implies, not_true_eq_false, reduceCtorEq, tl_s, tl_n, rf_s, List.cons_append, List.nil_append, true_or, or_true]
            exact hQ
        · rw [if_neg c4] at hQ
          by_cases c5 : s = 8
          · rw [if_pos c5] at hQ
            refine B_Text_nextState_4 ?_
            simp only [wp_cons, wp_nil, List.getElem?_cons_zero, List.getElem?_cons_succ, List.set_cons_zero, List.set_cons_succ, s_ifCond_eq, p1_s, true_and, and_true, Nat.le_refl, true_implies, forall_const, not_false_eq_true, false_implies, not_true_eq_false, reduceCtorEq, tl_s, tl_n, rf_s, List.cons_append, List.nil_append, true_or, or_true]
            refine B_Text_nextState_26 ?_
            simp only [wp_cons, wp_nil, List.getElem?_cons_zero, List.getElem?_cons_succ, List.set_cons_zero, List.set_cons_succ, s_iload_n1, ldI_s, s_bipush, s_if_icmp_ne, p2_s, true_and, and_true, Nat.le_refl, true_implies, forall_const, not_false_eq_true, false_implies, not_true_eq_false, reduceCtorEq, tl_s, tl_n, rf_s, List.cons_append, List.nil_append, true_or, or_true]
            refine b_ne (by omega) (by omega) (fun cc => ?_) (fun cc => absurd cc (by omega))
            refine B_Text_nextState_47 ?_
            simp only [wp_cons, wp_nil, List.getElem?_cons_zero, List.getElem?_cons_succ, List.set_cons_zero, List.set_cons_succ, s_iload_n0, ldI_s, s_iconst, s_if_icmp_gt, p2_s, true_and, and_true, Nat.le_refl, true_implies, forall_const, not_false_eq_true, false_implies, not_true_eq_false, reduceCtorEq, tl_s, tl_n, rf_s, List.cons_append, List.nil_append, true_or, or_true]
            refine b_lt (by omega) (by omega) (fun cc => ?_) (fun cc => absurd cc (by omega))
            refine B_Text_nextState_54 ?_
            simp only [wp_cons, wp_nil, List.getElem?_cons_zero, List.getElem?_cons_succ, List.set_cons_zero, List.set_cons_succ, s_iload_n1, ldI_s, s_bipush, s_if_icmp_ne, p2_s, true_and, and_true, Nat.le_refl, true_implies, forall_const, not_false_eq_true, false_implies, not_true_eq_false, reduceCtorEq, tl_s, tl_n, rf_s, List.cons_append, List.nil_append, true_or, or_true]
            refine b_ne (by omega) (by omega) (fun cc => ?_) (fun cc => absurd cc (by omega))
            refine B_Text_nextState_71 ?_
            simp only [wp_cons, wp_nil, List.getElem?_cons_zero, List.getElem?_cons_succ, List.set_cons_zero, List.set_cons_succ, s_iload_n0, ldI_s, s_bipush, s_if_icmp_ne, p2_s, true_and, and_true, Nat.le_refl, true_implies, forall_const, not_false_eq_true, false_implies, not_true_eq_false, reduceCtorEq, tl_s, tl_n, rf_s, List.cons_append, List.nil_append, true_or, or_true]
            refine b_ne (by omega) (by omega) (fun cc => absurd cc (by omega)) (fun cc => ?_)
            refine B_Text_nextState_77 ?_
            simp only [wp_cons, wp_nil, List.getElem?_cons_zero, List.getElem?_cons_succ, List.set_cons_zero, List.set_cons_succ, s_iconst, s_ireturn, p1_s, rI_i, rI_z, rI_c, z_01, z_11, rt_Text_nextState, true_and, and_true, Nat.le_refl, true_implies, forall_const, not_false_eq_true, false_implies, not_true_eq_false, reduceCtorEq, tl_s, tl_n, rf_s, List.cons_append, List.nil_append, true_or, or_true]
            exact hQ
          · rw [if_neg c5] at hQ
            by_cases c6 : c = 45
            · rw [if_pos c6] at hQ
              refine B_Text_nextState_4 ?_
              simp only [wp_cons, wp_nil, List.getElem?_cons_zero, List.getElem?_cons_succ, List.set_cons_zero, List.set_cons_succ, s_ifCond_eq, p1_s, true_and, and_true, Nat.le_refl, true_implies, forall_const, not_false_eq_true, false_implies, not_true_eq_false, reduceCtorEq, tl_s, tl_n, rf_s, List.cons_append, List.nil_append, true_or, or_true]
              refine B_Text_nextState_26 ?_
              simp only [wp_cons, wp_nil, List.getElem?_cons_zero, List.getElem?_cons_succ, List.set_cons_zero, List.set_cons_succ, s_iload_n1, ldI_s, s_bipush, s_if_icmp_ne, p2_s, true_and, and_true, Nat.le_refl, true_implies, forall_const, not_false_eq_true, false_implies, not_true_eq_false, reduceCtorEq, tl_s, tl_n, rf_s, List.cons_append, List.nil_append, true_or, or_true]
              refine b_ne (by omega) (by omega) (fun cc => ?_) (fun cc => absurd cc (by omega))
              refine B_Text_nextState_47 ?_
              simp only [wp_cons, wp_nil, List.getElem?_cons_zero, List.getElem?_cons_succ, List.set_cons_zero, List.set_cons_succ, s_iload_n0, ldI_s, s_iconst, s_if_icmp_gt, p2_s, true_and, and_true, Nat.le_refl, true_implies, forall_const, not_false_eq_true, false_implies, not_true_eq_false, reduceCtorEq, tl_s, tl_n, rf_s, List.cons_append, List.nil_append, true_or, or_true]
              refine b_lt (by omega) (by omega) (fun cc => ?_) (fun cc => absurd cc (by omega))
              refine B_Text_nextState_54 ?_
              simp only [wp_cons, wp_nil, List.getElem?_cons_zero, List.getElem?_cons_succ, List.set_cons_zero, List.set_cons_succ, s_iload_n1, ldI_s, s_bipush, s_if_icmp_ne, p2_s, true_and, and_true, Nat.le_refl, true_implies, forall_const, not_false_eq_true, false_implies, not_true_eq_false, reduceCtorEq, tl_s, tl_n, rf_s, List.cons_append, List.nil_append, true_or, or_true]
              refine b_ne (by omega) (by omega) (fun cc => ?_) (fun cc => absurd cc (by omega))
              refine B_Text_nextState_71 ?_
              simp only [wp_cons, wp_nil, List.getElem?_cons_zero, List.getElem?_cons_succ, List.set_cons_zero, List.set_cons_succ, s_iload_n0, ldI_s, s_bipush, s_if_icmp_ne, p2_s, true_and, and_true, Nat.le_refl, true_implies, forall_const, not_false_eq_true, false_implies, not_true_eq_false, reduceCtorEq, tl_s, tl_n, rf_s, List.cons_append, List.nil_append, true_or, or_true]
              refine b_ne (by omega) (by omega) (fun cc => ?_) (fun cc => absurd cc (by omega))
              refine B_Text_nextState_79 ?_
              simp only [wp_cons, wp_nil, List.getElem?_cons_zero, List.getElem?_cons_succ, List.set_cons_zero, List.set_cons_succ, s_iload_n1, ldI_s, s_bipush, s_if_icmp_ne, p2_s, true_and, and_true, Nat.le_refl, true_implies, forall_const, not_false_eq_true, false_implies, not_true_eq_false, reduceCtorEq, tl_s, tl_n, rf_s, List.cons_append, List.nil_append, true_or, or_true]
              refine b_ne (by omega) (by omega) (fun cc => absurd cc (by omega)) (fun cc => ?_)
              refine B_Text_nextState_85 ?_
              simp only [wp_cons, wp_nil, List.getElem?_cons_zero, List.getElem?_cons_succ, List.set_cons_zero, List.set_cons_succ, s_iconst, s_ireturn, p1_s, rI_i, rI_z, rI_c, z_01, z_11, rt_Text_nextState, true_and, and_true, Nat.le_refl, true_implies, forall_const, not_false_eq_true, false_implies, not_true_eq_false, reduceCtorEq, tl_s, tl_n, rf_s, List.cons_append, List.nil_append, true_or, or_true]
              exact hQ
            · rw [if_neg c6] at hQ
              by_cases c7 : c = 122
              · by_cases c8 : 3 ≤ p
                · rw [if_pos ⟨c7, c8⟩] at hQ
                  refine B_Text_nextState_4 ?_
                  simp only [wp_cons, wp_nil, List.getElem?_cons_zero, List.getElem?_cons_succ, List.set_cons_zero, List.set_cons_succ, s_ifCond_eq, p1_s, true_and, and_true, Nat.le_refl, true_implies, forall_const, not_false_eq_true, false_implies, not_true_eq_false, reduceCtorEq, tl_s, tl_n, rf_s, List.cons_append, List.nil_append, true_or, or_true]
                  refine B_Text_nextState_26 ?_
                  simp only [wp_cons, wp_nil, List.getElem?_cons_zero, List.getElem?_cons_succ, List.set_cons_zero, List.set_cons_succ, s_iload_n1, ldI_s, s_bipush, s_if_icmp_ne, p2_s, true_and, and_true, Nat.le_refl, true_implies, forall_const, not_false_eq_true, false_implies, not_true_eq_false, reduceCtorEq, tl_s, tl_n, rf_s, List.cons_append, List.nil_append, true_or, or_true]
                  refine b_ne (by omega) (by omega) (fun cc => ?_) (fun cc => absurd cc (by omega))
                  refine B_Text_nextState_47 ?_
                  simp only [wp_cons, wp_nil, List.getElem?_cons_zero, List.getElem?_cons_succ, List.set_cons_zero, List.set_cons_succ, s_iload_n0, ldI_s, s_iconst, s_if_icmp_gt, p2_s, true_and, and_true, Nat.le_refl, true_implies, forall_const, not_false_eq_true, false_implies, not_true_eq_false, reduceCtorEq, tl_s, tl_n, rf_s, List.cons_append, List.nil_append, true_or, or_true]
                  refine b_lt (by omega) (by omega) (fun cc => ?_) (fun cc => absurd cc (by omega))
                  refine B_Text_nextState_54 ?_
                  simp only [wp_cons, wp_nil, List.getElem?_cons_zero, List.getElem?_cons_succ, List.set_cons_zero, List.set_cons_succ, s_iload_n1, ldI_s, s_bipush, s_if_icmp_ne, p2_s, true_and, and_true, Nat.le_refl, true_implies, forall_const, not_false_eq_true, false_implies, not_true_eq_false, reduceCtorEq, tl_s, tl_n, rf_s, List.cons_append, List.nil_append, true_or, or_true]
                  refine b_ne (by omega) (by omega) (fun cc => ?_) (fun cc => absurd cc (by omega))
                  refine B_Text_nextState_71 ?_
                  simp only [wp_cons, wp_nil, List.getElem?_cons_zero, List.getElem?_cons_succ, List.set_cons_zero, List.set_cons_succ, s_iload_n0, ldI_s, s_bipush, s_if_icmp_ne, p2_s, true_and, and_true, Nat.le_refl, true_implies, forall_const, not_false_eq_true, false_implies, not_true_eq_false, reduceCtorEq, tl_s, tl_n, rf_s, List.cons_append, List.nil_append, true_or, or_true]
                  refine b_ne (by omega) (by omega) (fun cc => ?_) (fun cc => absurd cc (by omega))
                  refine B_Text_nextState_79 ?_
                  simp only [wp_cons, wp_nil, List.getElem?_cons_zero, List.getElem?_cons_succ, List.set_cons_zero, List.set_cons_succ, s_iload_n1, ldI_s, s_bipush, s_if_icmp_ne, p2_s, true_and, and_true, Nat.le_refl, true_implies, forall_const, not_false_eq_true, false_implies, not_true_eq_false, reduceCtorEq, tl_s, tl_n, rf_s, List.cons_append, List.nil_append, true_or, or_true]
                  refine b_ne (by omega) (by omega) (fun cc => ?_) (fun cc => absurd cc (by omega))
                  refine B_Text_nextState_87 ?_
                  simp only [wp_cons, wp_nil, List.getElem?_cons_zero, List.getElem?_cons_succ, List.set_cons_zero, List.set_cons_succ, s_iload_n1, ldI_s, s_bipush, s_if_icmp_ne, p2_s, true_and, and_true, Nat.le_refl, true_implies, forall_const, not_false_eq_true, false_implies, not_true_eq_false, reduceCtorEq, tl_s, tl_n, rf_s, List.cons_append, List.nil_append, true_or, or_true]
                  refine b_ne (by omega) (by omega) (fun cc => absurd cc (by omega)) (fun cc => ?_)
                  refine B_Text_nextState_93 ?_
                  simp only [wp_cons, wp_nil, List.getElem?_cons_zero, List.getElem?_cons_succ, List.set_cons_zero, List.set_cons_succ, s_iload_n2, ldI_s, s_iconst, s_if_icmp_lt, p2_s, true_and, and_true, Nat.le_refl, true_implies, forall_const, not_false_eq_true, false_implies, not_true_eq_false, reduceCtorEq, tl_s, tl_n, rf_s, List.cons_append, List.nil_append, true_or, or_true]
                  refine b_lt (by omega) (by omega) (fun cc => absurd cc (by omega)) (fun cc => ?_)
                  refine B_Text_nextState_98 ?_
                  simp only [wp_cons, wp_nil, List.getElem?_cons_zero, List.getElem?_cons_succ, List.set_cons_zero, List.set_cons_succ, s_bipush, s_goto, true_and, and_true, Nat.le_refl, true_implies, forall_const, not_false_eq_true, false_implies, not_true_eq_false, reduceCtorEq, tl_s, tl_n, rf_s, List.cons_append, List.nil_append, true_or, or_true]
                  refine B_Text_nextState_104 ?_
                  simp only [wp_cons, wp_nil, List.getElem?_cons_zero, List.getElem?_cons_succ, List.set_cons_zero, List.set_cons_succ, s_ireturn, p1_s, rI_i, rI_z, rI_c, z_01, z_11, rt_Text_nextState, true_and, and_true, Nat.le_refl, true_implies, forall_const, not_false_eq_true, false_implies, not_true_eq_false, reduceCtorEq, tl_s, tl_n, rf_s, List.cons_append, List.nil_append, true_or, or_true]
                  exact hQ
                · rw [if_neg (fun q => c8 q.2)] at hQ
                  refine B_Text_nextState_4 ?_
                  simp only [wp_cons, wp_nil, List.getElem?_cons_zero, List.getElem?_cons_succ, List.set_cons_zero, List.set_cons_succ, s_ifCond_eq, p1_s, true_and, and_true, Nat.le_refl, true_implies, forall_const, not_false_eq_true, false_implies, not_true_eq_false, reduceCtorEq, tl_s, tl_n, rf_s, List.cons_append, List.nil_append, true_or, or_true]
                  refine B_Text_nextState_26 ?_
                  simp only [wp_cons, wp_nil, List.getElem?_cons_zero, List.getElem?_cons_succ, List.set_cons_zero, List.set_cons_succ, s_iload_n1, ldI_s, s_bipush, s_if_icmp_ne, p2_s, true_and, and_true, Nat.le_refl, true_implies, forall_const, not_false_eq_true, false_implies, not_true_eq_false, reduceCtorEq, tl_s, tl_n, rf_s, List.cons_append, List.nil_append, true_or, or_true]
                  refine b_ne (by omega) (by omega) (fun cc => ?_) (fun cc => absurd cc (by omega))
                  refine B_Text_nextState_47 ?_
                  simp only [wp_cons, wp_nil, List.getElem?_cons_zero, List.getElem?_cons_succ, List.set_cons_zero, List.set_cons_succ, s_iload_n0, ldI_s, s_iconst, s_if_icmp_gt, p2_s, true_and, and_true, Nat.le_refl, true_implies, forall_const, not_false_eq_true, false_implies, not_true_eq_false, reduceCtorEq, tl_s, tl_n, rf_s, List.cons_append, List.nil_append, true_or, or_true]
                  refine b_lt (by omega) (by omega) (fun cc => ?_) (fun cc => absurd cc (by omega))
                  refine B_Text_nextState_54 ?_
                  simp only [wp_cons, wp_nil, List.getElem?_cons_zero, List.getElem?_cons_succ, List.set_cons_zero, List.set_cons_succ, s_iload_n1, ldI_s, s_bipush, s_if_icmp_ne, p2_s, true_and, and_true, Nat.le_refl, true_implies, forall_const, not_false_eq_true, false_implies, not_true_eq_false, reduceCtorEq, tl_s, tl_n, rf_s, List.cons_append, List.nil_append, true_or, or_true]
                  refine b_ne (by omega) (by omega) (fun cc => ?_) (fun cc => absurd cc (by omega))
                  refine B_Text_nextState_71 ?_
                  simp only [wp_cons, wp_nil, List.getElem?_cons_zero, List.getElem?_cons_succ, List.set_cons_zero, List.set_cons_succ, s_iload_n0, ldI_s, s_bipush, s_if_icmp_ne, p2_s, true_and, and_true, Nat.le_refl, true_implies, forall_const, not_false_eq_true, false_implies, not_true_eq_false, reduceCtorEq, tl_s, tl_n, rf_s, List.cons_append, List.nil_append, true_or, or_true]
                  refine b_ne (by omega) (by omega) (fun cc => ?_) (fun cc => absurd cc (by omega))
                  refine B_Text_nextState_79 ?_
                  simp only [wp_cons, wp_nil, List.getElem?_cons_zero, List.getElem?_cons_succ, List.set_cons_zero, List.set_cons_succ, s_iload_n1, ldI_s, s_bipush, s_if_icmp_ne, p2_s, true_and, and_true, Nat.le_refl, true_implies, forall_const, not_false_eq_true, false_implies, not_true_eq_false, reduceCtorEq, tl_s, tl_n, rf_s, List.cons_append, List.nil_append, true_or, or_true]
                  refine b_ne (by omega) (by omega) (fun cc => ?_) (fun cc => absurd cc (by omega))
                  refine B_Text_nextState_87 ?_
                  simp only [wp_cons, wp_nil, List.getElem?_cons_zero, List.getElem?_cons_succ, List.set_cons_zero, List.set_cons_succ, s_iload_n1, ldI_s, s_bipush, s_if_icmp_ne, p2_s, true_and, and_true, Nat.le_refl, true_implies, forall_const, not_false_eq_true, false_implies, not_true_eq_false, reduceCtorEq, tl_s, tl_n, rf_s, List.cons_append, List.nil_append, true_or, or_true]
                  refine b_ne (by omega) (by omega) (fun cc => absurd cc (by omega)) (fun cc => ?_)
                  refine B_Text_nextState_93 ?_
                  simp only [wp_cons, wp_nil, List.getElem?_cons_zero, List.getElem?_cons_succ, List.set_cons_zero, List.set_cons_succ, s_iload_n2, ldI_s, s_iconst, s_if_icmp_lt, p2_s, true_and, and_true, Nat.le_refl, true_implies, forall_const, not_false_eq_true, false_implies, not_true_eq_false, reduceCtorEq, tl_s, tl_n, rf_s, List.cons_append, List.nil_append, true_or, or_true]
                  refine b_lt (by omega) (by omega) (fun cc => ?_) (fun cc => absurd cc (by omega))
                  refine B_Text_nextState_103 ?_
                  simp only [wp_cons, wp_nil, List.getElem?_cons_zero, List.getElem?_cons_succ, List.set_cons_zero, List.set_cons_succ, s_iconst, true_and, and_true, Nat.le_refl, true_implies, forall_const, not_false_eq_true, false_implies, not_true_eq_false, reduceCtorEq, tl_s, tl_n, rf_s, List.cons_append, List.nil_append, true_or, or_true]
                  refine B_Text_nextState_104 ?_
                  simp only [wp_cons, wp_nil, List.getElem?_cons_zero, List.getElem?_cons_succ, List.set_cons_zero, List.set_cons_succ, s_ireturn, p1_s, rI_i, rI_z, rI_c, z_01, z_11, rt_Text_nextState, true_and, and_true, Nat.le_refl, true_implies, forall_const, not_false_eq_true, false_implies, not_true_eq_false, reduceCtorEq, tl_s, tl_n, rf_s, List.cons_append, List.nil_append, true_or, or_true]
                  exact hQ
              · rw [if_neg (fun q => c7 q.1)] at hQ
                refine B_Text_nextState_4 ?_
                simp only [wp_cons, wp_nil, List.getElem?_cons_zero, List.getElem?_cons_succ, List.set_cons_zero, List.set_cons_succ, s_ifCond_eq, p1_s, true_and, and_true, Nat.le_refl, true_implies, forall_const, not_false_eq_true, false_implies, not_true_eq_false, reduceCtorEq, tl_s, tl_n, rf_s, List.cons_append, List.nil_append, true_or, or_true]
                refine B_Text_nextState_26 ?_
                simp only [wp_cons, wp_nil, List.getElem?_cons_zero, List.getElem?_cons_succ, List.set_cons_zero, List.set_cons_succ, s_iload_n1, ldI_s, s_bipush, s_if_icmp_ne, p2_s, true_and, and_true, Nat.le_refl, true_implies, forall_const, not_false_eq_true, false_implies, not_true_eq_false, reduceCtorEq, tl_s, tl_n, rf_s, List.cons_append, List.nil_append, true_or, or_true]
                refine b_ne (by omega) (by omega) (fun cc => ?_) (fun cc => absurd cc (by omega))
                refine B_Text_nextState_47 ?_
                simp only [wp_cons, wp_nil, List.getElem?_cons_zero, List.getElem?_cons_succ, List.set_cons_zero, List.set_cons_succ, s_iload_n0, ldI_s, s_iconst, s_if_icmp_gt, p2_s, true_and, and_true, Nat.le_refl, true_implies, forall_const, not_false_eq_true, false_implies, not_true_eq_false, reduceCtorEq, tl_s, tl_n, rf_s, List.cons_append, List.nil_append, true_or, or_true]
                refine b_lt (by omega) (by omega) (fun cc => ?_) (fun cc => absurd cc (by omega))
                refine B_Text_nextState_54 ?_
                simp only [wp_cons, wp_nil, List.getElem?_cons_zero, List.getElem?_cons_succ, List.set_cons_zero, List.set_cons_succ, s_iload_n1, ldI_s, s_bipush, s_if_icmp_ne, p2_s, true_and, and_true, Nat.le_refl, true_implies, forall_const, not_false_eq_true, false_implies, not_true_eq_false, reduceCtorEq, tl_s, tl_n, rf_s, List.cons_append, List.nil_append, true_or, or_true]
                refine b_ne (by omega) (by omega) (fun cc => ?_) (fun cc => absurd cc (by omega))
                refine B_Text_nextState_71 ?_
                simp only [wp_cons, wp_nil, List.getElem?_cons_zero, List.getElem?_cons_succ, List.set_cons_zero, List.set_cons_succ, s_iload_n0, ldI_s, s_bipush, s_if_icmp_ne, p2_s, true_and, and_true, Nat.le_refl, true_implies, forall_const, not_false_eq_true, false_implies, not_true_eq_false, reduceCtorEq, tl_s, tl_n, rf_s, List.cons_append, List.nil_append, true_or, or_true]
                refine b_ne (by omega) (by omega) (fun cc => ?_) (fun cc => absurd cc (by omega))
                refine B_Text_nextState_79 ?_
                simp only [wp_cons, wp_nil, List.getElem?_cons_zero, List.getElem?_cons_succ, List.set_cons_zero, List.set_cons_succ, s_iload_n1, ldI_s, s_bipush, s_if_icmp_ne, p2_s, true_and, and_true, Nat.le_refl, true_implies, forall_const, not_false_eq_true, false_implies, not_true_eq_false, reduceCtorEq, tl_s, tl_n, rf_s, List.cons_append, List.nil_append, true_or, or_true]
                refine b_ne (by omega) (by omega) (fun cc => ?_) (fun cc => absurd cc (by omega))
                refine B_Text_nextState_87 ?_
                simp only [wp_cons, wp_nil, List.getElem?_cons_zero, List.getElem?_cons_succ, List.set_cons_zero, List.set_cons_succ, s_iload_n1, ldI_s, s_bipush, s_if_icmp_ne, p2_s, true_and, and_true, Nat.le_refl, true_implies, forall_const, not_false_eq_true, false_implies, not_true_eq_false, reduceCtorEq, tl_s, tl_n, rf_s, List.cons_append, List.nil_append, true_or, or_true]
                refine b_ne (by omega) (by omega) (fun cc => ?_) (fun cc => absurd cc (by omega))
                refine B_Text_nextState_103 ?_
                simp only [wp_cons, wp_nil, List.getElem?_cons_zero, List.getElem?_cons_succ, List.set_cons_zero, List.set_cons_succ, s_iconst, true_and, and_true, Nat.le_refl, true_implies, forall_const, not_false_eq_true, false_implies, not_true_eq_false, reduceCtorEq, tl_s, tl_n, rf_s, List.cons_append, List.nil_append, true_or, or_true]
                refine B_Text_nextState_104 ?_
                simp only [wp_cons, wp_nil, List.getElem?_cons_zero, List.getElem?_cons_succ, List.set_cons_zero, List.set_cons_succ, s_ireturn, p1_s, rI_i, rI_z, rI_c, z_01, z_11, rt_Text_nextState, true_and, and_true, Nat.le_refl, true_implies, forall_const, not_false_eq_true, false_implies, not_true_eq_false, reduceCtorEq, tl_s, tl_n, rf_s, List.cons_append, List.nil_append, true_or, or_true]
                exact hQ
theorem Txt_err_l {d a : Nat} (d2 : 2 ≤ d) {T : List Int} (w : wfT T) {h : g_H} {Q : g_Po} (ha : txt h a T) (hQ : Q (some (.int (I (errT T)))) h) : ∀ (m i : Nat) (s p : Int) (x4 : Option Value), i + m = T.length → (0 ≤ s ∧ s ≤ 8) → (1 ≤ p ∧ p ≤ i + 1) → dfa T m i s p = errT T →
    G Text_firstError d 0 0 0 0 6 [some (.ref a), some (.int (I s)), some (.int (I p)), some (.int (I (i : Int))), x4] [] h Q := by
  have d1 : 1 ≤ d := by omega
  obtain ⟨q1, q2, ⟨f, q3, q4⟩, q5⟩ := id ha
  intro m
  induction m with
  | zero =>
    intro i s p x4 hi hs hp hd
    unfold dfa at hd
    rw [← hd] at hQ
    by_cases c1 : 4 < s
    · by_cases c2 : 2 ≤ p
      · rw [if_pos ⟨c1, c2⟩] at hQ
        refine B_Text_firstError_6 ?_
        simp only [wp_cons, wp_nil, List.getElem?_cons_zero, List.getElem?_cons_succ, List.set_cons_zero, List.set_cons_succ, s_iload_n3, ldI_s, s_aload_n0, ldA_r, ldA_n, s_getfield, pR_s, ob_s, gt_s, s_if_icmp_ge, p2_s, true_and, and_true, Nat.le_refl, true_implies, forall_const, not_false_eq_true, false_implies, not_true_eq_false, reduceCtorEq, tl_s, tl_n, rf_s, List.cons_append, List.nil_append, true_or, or_true, q2]
        refine b_le (by omega) (by omega) (fun cc => ?_) (fun cc => absurd cc (by omega))
        refine B_Text_firstError_64 ?_
        simp only [wp_cons, wp_nil, List.getElem?_cons_zero, List.getElem?_cons_succ, List.set_cons_zero, List.set_cons_succ, s_iload_n1, ldI_s, s_iconst, s_if_icmp_le, p2_s, true_and, and_true, Nat.le_refl, true_implies, forall_const, not_false_eq_true, false_implies, not_true_eq_false, reduceCtorEq, tl_s, tl_n, rf_s, List.cons_append, List.nil_append, true_or, or_true, q2]
        refine b_le (by omega) (by omega) (fun cc => absurd cc (by omega)) (fun cc => ?_)
        refine B_Text_firstError_69 ?_
        simp only [wp_cons, wp_nil, List.getElem?_cons_zero, List.getElem?_cons_succ, List.set_cons_zero, List.set_cons_succ, s_iload_n2, ldI_s, s_iconst, s_if_icmp_lt, p2_s, true_and, and_true, Nat.le_refl, true_implies, forall_const, not_false_eq_true, false_implies, not_true_eq_false, reduceCtorEq, tl_s, tl_n, rf_s, List.cons_append, List.nil_append, true_or, or_true, q2]
        refine b_lt (by omega) (by omega) (fun cc => absurd cc (by omega)) (fun cc => ?_)
        refine B_Text_firstError_74 ?_
        simp only [wp_cons, wp_nil, List.getElem?_cons_zero, List.getElem?_cons_succ, List.set_cons_zero, List.set_cons_succ, s_bipush, s_goto, true_and, and_true, Nat.le_refl, true_implies, forall_const, not_false_eq_true, false_implies, not_true_eq_false, reduceCtorEq, tl_s, tl_n, rf_s, List.cons_append, List.nil_append, true_or, or_true, q2]
        refine B_Text_firstError_83 ?_
        simp only [wp_cons, wp_nil, List.getElem?_cons_zero, List.getElem?_cons_succ, List.set_cons_zero, List.set_cons_succ, s_ireturn, p1_s, rI_i, rI_z, rI_c, z_01, z_11, rt_Text_firstError, true_and, and_true, Nat.le_refl, true_implies, forall_const, not_false_eq_true, false_implies, not_true_eq_false, reduceCtorEq, tl_s, tl_n, rf_s, List.cons_append, List.nil_append, true_or, or_true, q2]
        exact hQ
      · rw [if_neg (fun q => c2 q.2)] at hQ
        refine B_Text_firstError_6 ?_
        simp only [wp_cons, wp_nil, List.getElem?_cons_zero, List.getElem?_cons_succ, List.set_cons_zero, List.set_cons_succ, s_iload_n3, ldI_s, s_aload_n0, ldA_r, ldA_n, s_getfield, pR_s, ob_s, gt_s, s_if_icmp_ge, p2_s, true_and, and_true, Nat.le_refl, true_implies, forall_const, not_false_eq_true, false_implies, not_true_eq_false, reduceCtorEq, tl_s, tl_n, rf_s, List.cons_append, List.nil_append, true_or, or_true, q2]
        refine b_le (by omega) (by omega) (fun cc => ?_) (fun cc => absurd cc (by omega))
        refine B_Text_firstError_64 ?_
        simp only [wp_cons, wp_nil, List.getElem?_cons_zero, List.getElem?_cons_succ, List.set_cons_zero, List.set_cons_succ, s_iload_n1, ldI_s, s_iconst, s_if_icmp_le, p2_s, true_and, and_true, Nat.le_refl, true_implies, forall_const, not_false_eq_true, false_implies, not_true_eq_false, reduceCtorEq, tl_s, tl_n, rf_s, List.cons_append, List.nil_append, true_or, or_true, q2]
        refine b_le (by omega) (by omega) (fun cc => absurd cc (by omega)) (fun cc => ?_)
        refine B_Text_firstError_69 ?_
        simp only [wp_cons, wp_nil, List.getElem?_cons_zero, List.getElem?_cons_succ, List.set_cons_zero, List.set_cons_succ, s_iload_n2, ldI_s, s_iconst, s_if_icmp_lt, p2_s, true_and, and_true, Nat.le_refl, true_implies, forall_const, not_false_eq_true, false_implies, not_true_eq_false, reduceCtorEq, tl_s, tl_n, rf_s, List.cons_append, List.nil_append, true_or, or_true, q2]
        refine b_lt (by omega) (by omega) (fun cc => ?_) (fun cc => absurd cc (by omega))
        refine B_Text_firstError_79 ?_
        simp only [wp_cons, wp_nil, List.getElem?_cons_zero, List.getElem?_cons_succ, List.set_cons_zero, List.set_cons_succ, s_aload_n0, ldA_r, ldA_n, s_getfield, pR_s, ob_s, gt_s, true_and, and_true, Nat.le_refl, true_implies, forall_const, not_false_eq_true, false_implies, not_true_eq_false, reduceCtorEq, tl_s, tl_n, rf_s, List.cons_append, List.nil_append, true_or, or_true, q2]
        refine B_Text_firstError_83 ?_
        simp only [wp_cons, wp_nil, List.getElem?_cons_zero, List.getElem?_cons_succ, List.set_cons_zero, List.set_cons_succ, s_ireturn, p1_s, rI_i, rI_z, rI_c, z_01, z_11, rt_Text_firstError, true_and, and_true, Nat.le_refl, true_implies, forall_const, not_false_eq_true, false_implies, not_true_eq_false, reduceCtorEq, tl_s, tl_n, rf_s, List.cons_append, List.nil_append, true_or, or_true, q2]
        exact hQ
    · rw [if_neg (fun q => c1 q.1)] at hQ
      refine B_Text_firstError_6 ?_
      simp only [wp_cons, wp_nil, List.getElem?_cons_zero, List.getElem?_cons_succ, List.set_cons_zero, List.set_cons_succ, s_iload_n3, ldI_s, s_aload_n0, ldA_r, ldA_n, s_getfield, pR_s, ob_s, gt_s, s_if_icmp_ge, p2_s, true_and, and_true, Nat.le_refl, true_implies, forall_const, not_false_eq_true, false_implies, not_true_eq_false, reduceCtorEq, tl_s, tl_n, rf_s, List.cons_append, List.nil_append, true_or, or_true, q2]
      refine b_le (by omega) (by omega) (fun cc => ?_) (fun cc => absurd cc (by omega))
      refine B_Text_firstError_64 ?_
      simp only [wp_cons, wp_nil, List.getElem?_cons_zero, List.getElem?_cons_succ, List.set_cons_zero, List.set_cons_succ, s_iload_n1, ldI_s, s_iconst, s_if_icmp_le, p2_s, true_and, and_true, Nat.le_refl, true_implies, forall_const, not_false_eq_true, false_implies, not_true_eq_false, reduceCtorEq, tl_s, tl_n, rf_s, List.cons_append, List.nil_append, true_or, or_true, q2]
      refine b_le (by omega) (by omega) (fun cc => ?_) (fun cc => absurd cc (by omega))
      refine B_Text_firstError_79 ?_
      simp only [wp_cons, wp_nil, List.getElem?_cons_zero, List.getElem?_cons_succ, List.set_cons_zero, List.set_cons_succ, s_aload_n0, ldA_r, ldA_n, s_getfield, pR_s, ob_s, gt_s, true_and, and_true, Nat.le_refl, true_implies, forall_const, not_false_eq_true, false_implies, not_true_eq_false, reduceCtorEq, tl_s, tl_n, rf_s, List.cons_append, List.nil_append, true_or, or_true, q2]
      refine B_Text_firstError_83 ?_
      simp only [wp_cons, wp_nil, List.getElem?_cons_zero, List.getElem?_cons_succ, List.set_cons_zero, List.set_cons_succ, s_ireturn, p1_s, rI_i, rI_z, rI_c, z_01, z_11, rt_Text_firstError, true_and, and_true, Nat.le_refl, true_implies, forall_const, not_false_eq_true, false_implies, not_true_eq_false, reduceCtorEq, tl_s, tl_n, rf_s, List.cons_append, List.nil_append, true_or, or_true, q2]
      exact hQ
  | succ m ih =>
    intro i s p x4 hi hs hp hd
    have w1 := w.2 i (by omega)
    have hn := nst_bd (c := pg T i) (p := p) hs
    unfold dfa at hd
    refine B_Text_firstError_6 ?_
    simp only [wp_cons, wp_nil, List.getElem?_cons_zero, List.getElem?_cons_succ, List.set_cons_zero, List.set_cons_succ, s_iload_n3, ldI_s, s_aload_n0, ldA_r, ldA_n, s_getfield, pR_s, ob_s, gt_s, s_if_icmp_ge, p2_s, true_and, and_true, Nat.le_refl, true_implies, forall_const, not_false_eq_true, false_implies, not_true_eq_false, reduceCtorEq, tl_s, tl_n, rf_s, List.cons_append, List.nil_append, true_or, or_true, q2]
    refine b_le (by omega) (by omega) (fun cc => absurd cc (by omega)) (fun cc => ?_)
    refine B_Text_firstError_14 ?_
    simp only [wp_cons, wp_nil, List.getElem?_cons_zero, List.getElem?_cons_succ, List.set_cons_zero, List.set_cons_succ, s_aload_n0, ldA_r, ldA_n, s_iload_n3, ldI_s, s_invokevirtual, rc_s, ob_s, List.drop_succ_cons, List.drop_zero, List.take_succ_cons, List.take_zero, List.reverse_cons, List.reverse_nil, List.nil_append, List.cons_append, List.length_cons, List.length_nil, d1, Int.reduceToNat, Nat.reduceAdd, Nat.reduceLeDiff, true_and, and_true, Nat.le_refl, true_implies, forall_const, not_false_eq_true, false_implies, not_true_eq_false, reduceCtorEq, tl_s, tl_n, rf_s, true_or, or_true, q2]
    refine Txt_sign_c ha w (by omega) ?_
    refine B_Text_firstError_19 ?_
    simp only [wp_cons, wp_nil, List.getElem?_cons_zero, List.getElem?_cons_succ, List.set_cons_zero, List.set_cons_succ, s_istore, p1_s, s1_0, s1_s, kx_i, kx_r, kx_n, kx_l, kx_0, s_iload_n1, ldI_s, s_iload, s_iload_n2, s_invokestatic, rc_s, ob_s, List.drop_succ_cons, List.drop_zero, List.take_succ_cons, List.take_zero, List.reverse_cons, List.reverse_nil, List.nil_append, List.cons_append, List.length_cons, List.length_nil, Nat.reduceEqDiff, reduceIte, p2_s, l1_s, d1, Int.reduceToNat, Nat.reduceAdd, Nat.reduceLeDiff, true_and, and_true, Nat.le_refl, true_implies, forall_const, not_false_eq_true, false_implies, not_true_eq_false, reduceCtorEq, tl_s, tl_n, rf_s, true_or, or_true, q2]
    refine Txt_next_c (by omega) hs (by omega) (by omega) ?_
    by_cases c1 : nst s (pg T i) p = -1
    · rw [if_pos c1] at hd
      rw [← hd] at hQ
      refine B_Text_firstError_28 ?_
      simp only [wp_cons, wp_nil, List.getElem?_cons_zero, List.getElem?_cons_succ, List.set_cons_zero, List.set_cons_succ, s_istore_n1, p1_s, s1_0, s1_s, kx_i, kx_r, kx_n, kx_l, kx_0, s_iload_n1, ldI_s, s_iconst, s_if_icmp_ne, p2_s, true_and, and_true, Nat.le_refl, true_implies, forall_const, not_false_eq_true, false_implies, not_true_eq_false, reduceCtorEq, tl_s, tl_n, rf_s, List.cons_append, List.nil_append, true_or, or_true, q2]
      refine b_ne (by omega) (by omega) (fun cc => absurd cc (by omega)) (fun cc => ?_)
      refine B_Text_firstError_34 ?_
      simp only [wp_cons, wp_nil, List.getElem?_cons_zero, List.getElem?_cons_succ, List.set_cons_zero, List.set_cons_succ, s_iload_n3, ldI_s, s_ireturn, p1_s, rI_i, rI_z, rI_c, z_01, z_11, rt_Text_firstError, true_and, and_true, Nat.le_refl, true_implies, forall_const, not_false_eq_true, false_implies, not_true_eq_false, reduceCtorEq, tl_s, tl_n, rf_s, List.cons_append, List.nil_append, true_or, or_true, q2]
      exact hQ
    · rw [if_neg c1] at hd
      unfold npt at hd
      by_cases c2 : pg T i = 45
      · rw [if_pos c2] at hd
        refine B_Text_firstError_28 ?_
        simp only [wp_cons, wp_nil, List.getElem?_cons_zero, List.getElem?_cons_succ, List.set_cons_zero, List.set_cons_succ, s_istore_n1, p1_s, s1_0, s1_s, kx_i, kx_r, kx_n, kx_l, kx_0, s_iload_n1, ldI_s, s_iconst, s_if_icmp_ne, p2_s, true_and, and_true, Nat.le_refl, true_implies, forall_const, not_false_eq_true, false_implies, not_true_eq_false, reduceCtorEq, tl_s, tl_n, rf_s, List.cons_append, List.nil_append, true_or, or_true, q2]
        refine b_ne (by omega) (by omega) (fun cc => ?_) (fun cc => absurd cc (by omega))
        refine B_Text_firstError_36 ?_
        simp only [wp_cons, wp_nil, List.getElem?_cons_zero, List.getElem?_cons_succ, List.set_cons_zero, List.set_cons_succ, s_iload, ldI_s, s_bipush, s_if_icmp_ne, p2_s, true_and, and_true, Nat.le_refl, true_implies, forall_const, not_false_eq_true, false_implies, not_true_eq_false, reduceCtorEq, tl_s, tl_n, rf_s, List.cons_append, List.nil_append, true_or, or_true, q2]
        refine b_ne (by omega) (by omega) (fun cc => absurd cc (by omega)) (fun cc => ?_)
        refine B_Text_firstError_43 ?_
        simp only [wp_cons, wp_nil, List.getElem?_cons_zero, List.getElem?_cons_succ, List.set_cons_zero, List.set_cons_succ, s_iinc, ldI_s, s1_0, s1_s, kx_i, kx_r, kx_n, kx_l, kx_0, I_add, s_goto, true_and, and_true, Nat.le_refl, true_implies, forall_const, not_false_eq_true, false_implies, not_true_eq_false, reduceCtorEq, tl_s, tl_n, rf_s, List.cons_append, List.nil_append, true_or, or_true, q2]
        refine B_Text_firstError_58 ?_
        simp only [wp_cons, wp_nil, List.getElem?_cons_zero, List.getElem?_cons_succ, List.set_cons_zero, List.set_cons_succ, s_iinc, ldI_s, s1_0, s1_s, kx_i, kx_r, kx_n, kx_l, kx_0, I_add, s_goto, true_and, and_true, Nat.le_refl, true_implies, forall_const, not_false_eq_true, false_implies, not_true_eq_false, reduceCtorEq, tl_s, tl_n, rf_s, List.cons_append, List.nil_append, true_or, or_true, q2]
        exact ih (i + 1) _ _ _ (by omega) (by omega) (by omega) hd
      · rw [if_neg c2] at hd
        by_cases c3 : pg T i = 59
        · rw [if_pos c3] at hd
          refine B_Text_firstError_28 ?_
          simp only [wp_cons, wp_nil, List.getElem?_cons_zero, List.getElem?_cons_succ, List.set_cons_zero, List.set_cons_succ, s_istore_n1, p1_s, s1_0, s1_s, kx_i, kx_r, kx_n, kx_l, kx_0, s_iload_n1, ldI_s, s_iconst, s_if_icmp_ne, p2_s, true_and, and_true, Nat.le_refl, true_implies, forall_const, not_false_eq_true, false_implies, not_true_eq_false, reduceCtorEq, tl_s, tl_n, rf_s, List.cons_append, List.nil_append, true_or, or_true, q2]
          refine b_ne (by omega) (by omega) (fun cc => ?_) (fun cc => absurd cc (by omega))
          refine B_Text_firstError_36 ?_
          simp only [wp_cons, wp_nil, List.getElem?_cons_zero, List.getElem?_cons_succ, List.set_cons_zero, List.set_cons_succ, s_iload, ldI_s, s_bipush, s_if_icmp_ne, p2_s, true_and, and_true, Nat.le_refl, true_implies, forall_const, not_false_eq_true, false_implies, not_true_eq_false, reduceCtorEq, tl_s, tl_n, rf_s, List.cons_append, List.nil_append, true_or, or_true, q2]
          refine b_ne (by omega) (by omega) (fun cc => ?_) (fun cc => absurd cc (by omega))
          refine B_Text_firstError_49 ?_
          simp only [wp_cons, wp_nil, List.getElem?_cons_zero, List.getElem?_cons_succ, List.set_cons_zero, List.set_cons_succ, s_iload, ldI_s, s_bipush, s_if_icmp_ne, p2_s, true_and, and_true, Nat.le_refl, true_implies, forall_const, not_false_eq_true, false_implies, not_true_eq_false, reduceCtorEq, tl_s, tl_n, rf_s, List.cons_append, List.nil_append, true_or, or_true, q2]
          refine b_ne (by omega) (by omega) (fun cc => absurd cc (by omega)) (fun cc => ?_)
          refine B_Text_firstError_56 ?_
          simp only [wp_cons, wp_nil, List.getElem?_cons_zero, List.getElem?_cons_succ, List.set_cons_zero, List.set_cons_succ, s_iconst, s_istore_n2, p1_s, s1_0, s1_s, kx_i, kx_r, kx_n, kx_l, kx_0, true_and, and_true, Nat.le_refl, true_implies, forall_const, not_false_eq_true, false_implies, not_true_eq_false, reduceCtorEq, tl_s, tl_n, rf_s, List.cons_append, List.nil_append, true_or, or_true, q2]
          refine B_Text_firstError_58 ?_
          simp only [wp_cons, wp_nil, List.getElem?_cons_zero, List.getElem?_cons_succ, List.set_cons_zero, List.set_cons_succ, s_iinc, ldI_s, s1_0, s1_s, kx_i, kx_r, kx_n, kx_l, kx_0, I_add, s_goto, true_and, and_true, Nat.le_refl, true_implies, forall_const, not_false_eq_true, false_implies, not_true_eq_false, reduceCtorEq, tl_s, tl_n, rf_s, List.cons_append, List.nil_append, true_or, or_true, q2]
          exact ih (i + 1) _ _ _ (by omega) (by omega) (by omega) hd
        · rw [if_neg c3] at hd
          refine B_Text_firstError_28 ?_
          simp only [wp_cons, wp_nil, List.getElem?_cons_zero, List.getElem?_cons_succ, List.set_cons_zero, List.set_cons_succ, s_istore_n1, p1_s, s1_0, s1_s, kx_i, kx_r, kx_n, kx_l, kx_0, s_iload_n1, ldI_s, s_iconst, s_if_icmp_ne, p2_s, true_and, and_true, Nat.le_refl, true_implies, forall_const, not_false_eq_true, false_implies, not_true_eq_false, reduceCtorEq, tl_s, tl_n, rf_s, List.cons_append, List.nil_append, true_or, or_true, q2]
          refine b_ne (by omega) (by omega) (fun cc => ?_) (fun cc => absurd cc (by omega))
          refine B_Text_firstError_36 ?_
          simp only [wp_cons, wp_nil, List.getElem?_cons_zero, List.getElem?_cons_succ, List.set_cons_zero, List.set_cons_succ, s_iload, ldI_s, s_bipush, s_if_icmp_ne, p2_s, true_and, and_true, Nat.le_refl, true_implies, forall_const, not_false_eq_true, false_implies, not_true_eq_false, reduceCtorEq, tl_s, tl_n, rf_s, List.cons_append, List.nil_append, true_or, or_true, q2]
          refine b_ne (by omega) (by omega) (fun cc => ?_) (fun cc => absurd cc (by omega))
          refine B_Text_firstError_49 ?_
          simp only [wp_cons, wp_nil, List.getElem?_cons_zero, List.getElem?_cons_succ, List.set_cons_zero, List.set_cons_succ, s_iload, ldI_s, s_bipush, s_if_icmp_ne, p2_s, true_and, and_true, Nat.le_refl, true_implies, forall_const, not_false_eq_true, false_implies, not_true_eq_false, reduceCtorEq, tl_s, tl_n, rf_s, List.cons_append, List.nil_append, true_or, or_true, q2]
          refine b_ne (by omega) (by omega) (fun cc => ?_) (fun cc => absurd cc (by omega))
          refine B_Text_firstError_58 ?_
          simp only [wp_cons, wp_nil, List.getElem?_cons_zero, List.getElem?_cons_succ, List.set_cons_zero, List.set_cons_succ, s_iinc, ldI_s, s1_0, s1_s, kx_i, kx_r, kx_n, kx_l, kx_0, I_add, s_goto, true_and, and_true, Nat.le_refl, true_implies, forall_const, not_false_eq_true, false_implies, not_true_eq_false, reduceCtorEq, tl_s, tl_n, rf_s, List.cons_append, List.nil_append, true_or, or_true, q2]
          exact ih (i + 1) _ _ _ (by omega) (by omega) (by omega) hd
theorem Txt_err_c {d a : Nat} (d2 : 2 ≤ d) {T : List Int} (w : wfT T) {h : g_H} {Q : g_Po} (ha : txt h a T) (hQ : Q (some (.int (I (errT T)))) h) : Call Text_firstError d 0 0 [.ref a] h Q := by
  refine Call.intro (by rfl) (Nat.le_of_ble_eq_true rfl) ?_
  refine G.eqL (L := [some (.ref _), none, none, none, none]) rfl ?_
  refine B_Text_firstError_0 ?_
  simp only [wp_cons, wp_nil, List.getElem?_cons_zero, List.getElem?_cons_succ, List.set_cons_zero, List.set_cons_succ, s_iconst, s_istore_n1, p1_s, s1_0, s1_s, kx_i, kx_r, kx_n, kx_l, kx_0, s_istore_n2, s_istore_n3, true_and, and_true, Nat.le_refl, true_implies, forall_const, not_false_eq_true, false_implies, not_true_eq_false, reduceCtorEq, tl_s, tl_n, rf_s, List.cons_append, List.nil_append, true_or, or_true]
  exact Txt_err_l d2 w ha hQ T.length 0 0 1 _ (by omega) (by omega) (by omega) rfl
theorem dfa_bd (T : List Int) : ∀ (m i : Nat) (s p : Int), i + m = T.length → dfa T m i s p = -6 ∨ (0 ≤ dfa T m i s p ∧ dfa T m i s p ≤ T.length) := by
  intro m
  induction m with
  | zero => intro i s p hi; unfold dfa; split <;> omega
  | succ m ih =>
    intro i s p hi
    unfold dfa
    split
    · omega
    · exact ih (i + 1) _ _ (by omega)
theorem errT_bd (T : List Int) : errT T = -6 ∨ (0 ≤ errT T ∧ errT T ≤ T.length) := dfa_bd T _ _ _ _ (by omega)
/-! two intervals of cells -/
def chg2 (a b c e : Nat) (h h' : g_H) : Prop := h'.length = h.length ∧ ∀ q : Nat, (q < a ∨ b ≤ q) → (q < c ∨ e ≤ q) → h'[q]? = h[q]?
theorem chg2.rf {a b c e : Nat} {h : g_H} : chg2 a b c e h h := ⟨rfl, fun _ _ _ => rfl⟩
theorem chg2.tr {a b c e : Nat} {h h' h'' : g_H} (x : chg2 a b c e h h') (y : chg2 a b c e h' h'') : chg2 a b c e h h'' := ⟨y.1.trans x.1, fun q h1 h2 => (y.2 q h1 h2).trans (x.2 q h1 h2)⟩
theorem chg.t1 {lo hi : Nat} {a b c e : Nat} {h h' : g_H} (x : chg lo hi h h') (h1 : a ≤ lo) (h2 : hi ≤ b) : chg2 a b c e h h' := ⟨x.1, fun q q1 _ => x.2 q (by omega)⟩
theorem chg.t2 {lo hi : Nat} {a b c e : Nat} {h h' : g_H} (x : chg lo hi h h') (h1 : c ≤ lo) (h2 : hi ≤ e) : chg2 a b c e h h' := ⟨x.1, fun q _ q1 => x.2 q (by omega)⟩
/-- what stands in an interval of cells that are the same stays true -/
theorem chg.pt {P : g_H → Prop} {s k : Nat} (kp : ∀ (lo hi : Nat) (h h' : g_H), chg lo hi h h' → (s + k ≤ lo ∨ hi ≤ s) → P h → P h') {h h' : g_H} (hl : h'.length = h.length) (he : ∀ b, s ≤ b → b < s + k → h'[b]? = h[b]?) (hp : P h) : P h' := by
  have hlen : (h.take s ++ h'.drop s).length = h.length := by
    rw [List.length_append, List.length_take, List.length_drop, hl]; omega
  have hget : ∀ b, (h.take s ++ h'.drop s)[b]? = if b < s then h[b]? else h'[b]? := by
    intro b
    by_cases c : b < s
    · rw [if_pos c]
      by_cases c2 : b < h.length
      · rw [List.getElem?_append_left (by rw [List.length_take]; omega), List.getElem?_take_of_lt c]
      · rw [List.getElem?_eq_none (by omega), List.getElem?_eq_none (by omega)]
    · rw [if_neg c]
      by_cases c2 : s ≤ h.length
      · rw [List.getElem?_append_right (by rw [List.length_take]; omega), List.length_take, List.getElem?_drop]
        congr 1; omega
      · rw [List.getElem?_eq_none (by omega), List.getElem?_eq_none (by omega)]
  have c1 : chg (s + k) (s + k + h.length) h (h.take s ++ h'.drop s) := by
    refine ⟨hlen, fun b hb => ?_⟩
    rw [hget]
    by_cases c : b < s
    · rw [if_pos c]
    · rw [if_neg c]
      by_cases c2 : b < s + k
      · exact he b (by omega) c2
      · rw [List.getElem?_eq_none (by omega), List.getElem?_eq_none (by omega)]
  have c2 : chg 0 s (h.take s ++ h'.drop s) h' := by
    refine ⟨by rw [hlen, hl], fun b hb => ?_⟩
    rw [hget, if_neg (by omega)]
  exact kp _ _ _ _ c2 (Or.inr (Nat.le_refl _)) (kp _ _ _ _ c1 (Or.inl (Nat.le_refl _)) hp)
theorem stL.cl {h : g_H} {s : Nat} {L : List Int} {z0 : Bool} (z : Bool) (q : stL h s (L, z0)) : stL (h.set s (.inr (.inr (2, [.ref (s + 1), .int (I (L.length : Int)), .int (I (sz z))])))) s (L, z) := by
  obtain ⟨f, q1, q2, q3⟩ := q
  exact ⟨f, ⟨h_at _ q1.1, (h_ne _ (by omega)).trans q1.2⟩, q2, q3⟩
def txc (h : g_H) (a : Nat) (T : List Int) : Prop := T.length ≤ 80 ∧ h[a]? = some (.inr (.inr (3, [.ref (a + 1), .ref (a + 2), .int (I (T.length : Int))]))) ∧ ∃ f : Nat → Int32, h[a + 1]? = some (.inl (1, 80, f)) ∧ ∀ i, i < T.length → f i = I (pg T i)
theorem txc.kp {h h' : g_H} {a lo hi : Nat} {T : List Int} (q : txc h a T) (c : chg lo hi h h') (ho : a + 2 ≤ lo ∨ hi ≤ a) : txc h' a T := by
  obtain ⟨q1, q2, ⟨f, q3, q4⟩⟩ := q
  exact ⟨q1, (c.at (by omega)).trans q2, ⟨f, (c.at (by omega)).trans q3, q4⟩⟩
theorem txc.t {h : g_H} {a : Nat} {T : List Int} (q : txc h a T) (s : stX h (a + 2)) : txt h a T := ⟨q.1, q.2.1, q.2.2, s⟩
theorem txt.c {h : g_H} {a : Nat} {T : List Int} (q : txt h a T) : txc h a T := ⟨q.1, q.2.1, q.2.2.1⟩
theorem Txt_parse_l {d a dd : Nat} (d3 : 3 ≤ d) {T : List Int} (w : wfT T) {σ : Nat → Nat} {pn : Stk} {R : List Stk} {h0 : g_H} {Q : g_Po} (hd : a + 4 ≤ dd ∨ dd + 24 ≤ a) (hQ : ∀ h', chg2 (a + 2) (a + 4) dd (dd + 24) h0 h' → txt h' a T → drw h' dd σ R pn → Q none h') :
    ∀ (m i : Nat) (h : g_H) (A : List Stk) (C : List Int) (z : Bool) (x n s p : Int) (x5 : Option Value), i + m = T.length → pinv i A C z x n s p → dfa T m i s p = -6 → prs T m i A C z x n = R → chg2 (a + 2) (a + 4) dd (dd + 24) h0 h → txc h a T → stL h (a + 2) (C, z) → drw h dd σ A pn →
    G Text_parseInto d 0 0 0 0 19 [some (.ref a), some (.ref dd), some (.int (I x)), some (.int (I n)), some (.int (I (i : Int))), x5] [] h Q := by
  have d1 : 1 ≤ d := by omega
  have hT := w.1
  intro m
  induction m with
  | zero =>
    intro i h A C z x n s p x5 hi hv hdf hr hc ht hs ha
    have hc2 : 4 < s ∧ 2 ≤ p := by
      unfold dfa at hdf
      split at hdf
      · assumption
      · omega
    obtain ⟨r1, r2, r3⟩ := pinv_row (by omega) hv hc2.1 hc2.2
    have hA : A.length < 10 := by
      have := hv.2.2.2.1
      have h2 := hv.2.1
      have h3 := hv.2.2.1
      cases z with
      | true => have := h2 rfl; omega
      | false => have := h3 rfl; omega
    obtain ⟨t1, t2, ⟨f, t3, t4⟩⟩ := id ht
    obtain ⟨g, k1, k2, k3⟩ := id hs
    obtain ⟨a1, a2, a3⟩ := id ha
    unfold prs at hr
    cases z with
    | true =>
      have hz : sz true = 1 := rfl
      rw [if_pos rfl] at hr
      refine B_Text_parseInto_19 ?_
      simp only [wp_cons, wp_nil, List.getElem?_cons_zero, List.getElem?_cons_succ, List.set_cons_zero, List.set_cons_succ, s_iload, ldI_s, s_aload_n0, ldA_r, ldA_n, s_getfield, pR_s, ob_s, gt_s, s_if_icmp_ge, p2_s, true_and, and_true, Nat.le_refl, true_implies, forall_const, not_false_eq_true, false_implies, not_true_eq_false, reduceCtorEq, tl_s, tl_n, rf_s, List.cons_append, List.nil_append, true_or, or_true, t2, k1.1, a2, hz]
      refine b_le (by omega) (by omega) (fun cc => ?_) (fun cc => absurd cc (by omega))
      refine B_Text_parseInto_141 ?_
      simp only [wp_cons, wp_nil, List.getElem?_cons_zero, List.getElem?_cons_succ, List.set_cons_zero, List.set_cons_succ, s_aload_n0, ldA_r, ldA_n, s_getfield, pR_s, ob_s, gt_s, s_ifCond_ne, p1_s, true_and, and_true, Nat.le_refl, true_implies, forall_const, not_false_eq_true, false_implies, not_true_eq_false, reduceCtorEq, tl_s, tl_n, rf_s, List.cons_append, List.nil_append, true_or, or_true, t2, k1.1, a2, hz]
      refine b_ne (by omega) (by omega) (fun cc => ?_) (fun cc => absurd cc (by omega))
      refine B_Text_parseInto_163 ?_
      simp only [wp_cons, wp_nil, List.getElem?_cons_zero, List.getElem?_cons_succ, List.set_cons_zero, List.set_cons_succ, s_aload_n1, ldA_r, ldA_n, s_aload_n0, s_getfield, pR_s, ob_s, gt_s, s_invokevirtual, rc_s, List.drop_succ_cons, List.drop_zero, List.take_succ_cons, List.take_zero, List.reverse_cons, List.reverse_nil, List.nil_append, List.cons_append, List.length_cons, List.length_nil, d1, Int.reduceToNat, Nat.reduceAdd, Nat.reduceLeDiff, true_and, and_true, Nat.le_refl, true_implies, forall_const, not_false_eq_true, false_implies, not_true_eq_false, reduceCtorEq, tl_s, tl_n, rf_s, true_or, or_true, t2, k1.1, a2, hz]
      refine Drawing_append_c (by omega) ha hA hs (by omega) (fun h1 c1 b1 => ?_)
      refine B_Text_parseInto_171 ?_
      simp only [wp_cons, wp_nil, List.getElem?_cons_zero, List.getElem?_cons_succ, List.set_cons_zero, List.set_cons_succ, s_return_, rt_Text_parseInto, true_and, and_true, Nat.le_refl, true_implies, forall_const, not_false_eq_true, false_implies, not_true_eq_false, reduceCtorEq, tl_s, tl_n, rf_s, List.cons_append, List.nil_append, true_or, or_true, t2, k1.1, a2]
      rw [hr] at b1
      exact hQ h1 (hc.tr (c1.t2 (by omega) (by omega))) ((ht.kp c1 (by omega)).t (hs.kp c1 (by omega)).x) b1
    | false =>
      have hz : sz false = 0 := rfl
      rw [if_neg (by decide)] at hr
      have hC : C.length < 30 := by have := hv.2.2.2.1; omega
      refine B_Text_parseInto_19 ?_
      simp only [wp_cons, wp_nil, List.getElem?_cons_zero, List.getElem?_cons_succ, List.set_cons_zero, List.set_cons_succ, s_iload, ldI_s, s_aload_n0, ldA_r, ldA_n, s_getfield, pR_s, ob_s, gt_s, s_if_icmp_ge, p2_s, true_and, and_true, Nat.le_refl, true_implies, forall_const, not_false_eq_true, false_implies, not_true_eq_false, reduceCtorEq, tl_s, tl_n, rf_s, List.cons_append, List.nil_append, true_or, or_true, t2, k1.1, a2, hz]
      refine b_le (by omega) (by omega) (fun cc => ?_) (fun cc => absurd cc (by omega))
      refine B_Text_parseInto_141 ?_
      simp only [wp_cons, wp_nil, List.getElem?_cons_zero, List.getElem?_cons_succ, List.set_cons_zero, List.set_cons_succ, s_aload_n0, ldA_r, ldA_n, s_getfield, pR_s, ob_s, gt_s, s_ifCond_ne, p1_s, true_and, and_true, Nat.le_refl, true_implies, forall_const, not_false_eq_true, false_implies, not_true_eq_false, reduceCtorEq, tl_s, tl_n, rf_s, List.cons_append, List.nil_append, true_or, or_true, t2, k1.1, a2, hz]
      refine B_Text_parseInto_151 ?_
      simp only [wp_cons, wp_nil, List.getElem?_cons_zero, List.getElem?_cons_succ, List.set_cons_zero, List.set_cons_succ, s_aload_n0, ldA_r, ldA_n, s_getfield, pR_s, ob_s, gt_s, s_iload_n2, ldI_s, s_iload_n3, s_invokestatic, rc_s, List.drop_succ_cons, List.drop_zero, List.take_succ_cons, List.take_zero, List.reverse_cons, List.reverse_nil, List.nil_append, List.cons_append, List.length_cons, List.length_nil, Nat.reduceEqDiff, reduceIte, p1_s, p2_s, l1_s, d1, Int.reduceToNat, Nat.reduceAdd, Nat.reduceLeDiff, true_and, and_true, Nat.le_refl, true_implies, forall_const, not_false_eq_true, false_implies, not_true_eq_false, reduceCtorEq, tl_s, tl_n, rf_s, true_or, or_true, t2, k1.1, a2, hz]
      refine Plane_told_c ?_
      refine B_Text_parseInto_160 ?_
      simp only [wp_cons, wp_nil, List.getElem?_cons_zero, List.getElem?_cons_succ, List.set_cons_zero, List.set_cons_succ, s_invokevirtual, rc_s, ob_s, List.drop_succ_cons, List.drop_zero, List.take_succ_cons, List.take_zero, List.reverse_cons, List.reverse_nil, List.nil_append, List.cons_append, List.length_cons, List.length_nil, d1, Int.reduceToNat, Nat.reduceAdd, Nat.reduceLeDiff, true_and, and_true, Nat.le_refl, true_implies, forall_const, not_false_eq_true, false_implies, not_true_eq_false, reduceCtorEq, tl_s, tl_n, rf_s, true_or, or_true, t2, k1.1, a2]
      refine Stroke_add_c hs hC (fun h1 c1 s1 => ?_)
      have ht1 := ht.kp c1 (by omega)
      have ha1 := ha.kp c1 (by omega)
      obtain ⟨t1, t2, ⟨f, t3, t4⟩⟩ := id ht1
      obtain ⟨a1, a2, a3⟩ := id ha1
      refine B_Text_parseInto_163 ?_
      simp only [wp_cons, wp_nil, List.getElem?_cons_zero, List.getElem?_cons_succ, List.set_cons_zero, List.set_cons_succ, s_aload_n1, ldA_r, ldA_n, s_aload_n0, s_getfield, pR_s, ob_s, gt_s, s_invokevirtual, rc_s, List.drop_succ_cons, List.drop_zero, List.take_succ_cons, List.take_zero, List.reverse_cons, List.reverse_nil, List.nil_append, List.cons_append, List.length_cons, List.length_nil, d1, Int.reduceToNat, Nat.reduceAdd, Nat.reduceLeDiff, true_and, and_true, Nat.le_refl, true_implies, forall_const, not_false_eq_true, false_implies, not_true_eq_false, reduceCtorEq, tl_s, tl_n, rf_s, true_or, or_true, t2, k1.1, a2]
      refine Drawing_append_c (by omega) ha1 hA s1 (by omega) (fun h2 c2 b2 => ?_)
      refine B_Text_parseInto_171 ?_
      simp only [wp_cons, wp_nil, List.getElem?_cons_zero, List.getElem?_cons_succ, List.set_cons_zero, List.set_cons_succ, s_return_, rt_Text_parseInto, true_and, and_true, Nat.le_refl, true_implies, forall_const, not_false_eq_true, false_implies, not_true_eq_false, reduceCtorEq, tl_s, tl_n, rf_s, List.cons_append, List.nil_append, true_or, or_true, t2, k1.1, a2]
      rw [hr] at b2
      exact hQ h2 ((hc.tr (c1.t1 (by omega) (by omega))).tr (c2.t2 (by omega) (by omega))) ((ht1.kp c2 (by omega)).t (s1.kp c2 (by omega)).x) b2
  | succ m ih =>
    intro i h A C z x n s p x5 hi hv hdf hr hc ht hs ha
    have hn : nst s (pg T i) p ≠ -1 := by
      intro q
      have : dfa T (m + 1) i s p = i := if_pos q
      omega
    have hd2 : dfa T m (i + 1) (nst s (pg T i) p) (npt (pg T i) p) = -6 := by
      have : dfa T (m + 1) i s p = dfa T m (i + 1) (nst s (pg T i) p) (npt (pg T i) p) := if_neg hn
      rw [← this]; exact hdf
    obtain ⟨s1, s2, s3, s4⟩ := pinv_step (by omega) hv hn
    have w1 := w.2 i (by omega)
    have hC : C.length < 30 := by have := hv.2.2.2.1; omega
    have hA : A.length < 10 := by have := hv.2.2.2.1; omega
    obtain ⟨t1, t2, ⟨f, t3, t4⟩⟩ := id ht
    obtain ⟨g, k1, k2, k3⟩ := id hs
    obtain ⟨a1, a2, a3⟩ := id ha
    unfold prs at hr
    refine B_Text_parseInto_19 ?_
    simp only [wp_cons, wp_nil, List.getElem?_cons_zero, List.getElem?_cons_succ, List.set_cons_zero, List.set_cons_succ, s_iload, ldI_s, s_aload_n0, ldA_r, ldA_n, s_getfield, pR_s, ob_s, gt_s, s_if_icmp_ge, p2_s, true_and, and_true, Nat.le_refl, true_implies, forall_const, not_false_eq_true, false_implies, not_true_eq_false, reduceCtorEq, tl_s, tl_n, rf_s, List.cons_append, List.nil_append, true_or, or_true, t2, k1.1, a2]
    refine b_le (by omega) (by omega) (fun cc => absurd cc (by omega)) (fun cc => ?_)
    refine B_Text_parseInto_28 ?_
    simp only [wp_cons, wp_nil, List.getElem?_cons_zero, List.getElem?_cons_succ, List.set_cons_zero, List.set_cons_succ, s_aload_n0, ldA_r, ldA_n, s_iload, ldI_s, s_invokevirtual, rc_s, ob_s, List.drop_succ_cons, List.drop_zero, List.take_succ_cons, List.take_zero, List.reverse_cons, List.reverse_nil, List.nil_append, List.cons_append, List.length_cons, List.length_nil, d1, Int.reduceToNat, Nat.reduceAdd, Nat.reduceLeDiff, true_and, and_true, Nat.le_refl, true_implies, forall_const, not_false_eq_true, false_implies, not_true_eq_false, reduceCtorEq, tl_s, tl_n, rf_s, true_or, or_true, t2, k1.1, a2]
    refine Txt_sign_c (ht.t hs.x) w (by omega) ?_
    refine B_Text_parseInto_34 ?_
    simp only [wp_cons, wp_nil, List.getElem?_cons_zero, List.getElem?_cons_succ, List.set_cons_zero, List.set_cons_succ, s_istore, p1_s, s1_0, s1_s, kx_i, kx_r, kx_n, kx_l, kx_0, s_iload, ldI_s, s_invokestatic, rc_s, ob_s, List.drop_succ_cons, List.drop_zero, List.take_succ_cons, List.take_zero, List.reverse_cons, List.reverse_nil, List.nil_append, List.cons_append, List.length_cons, List.length_nil, Nat.reduceEqDiff, reduceIte, p2_s, l1_s, d1, Int.reduceToNat, Nat.reduceAdd, Nat.reduceLeDiff, true_and, and_true, Nat.le_refl, true_implies, forall_const, not_false_eq_true, false_implies, not_true_eq_false, reduceCtorEq, tl_s, tl_n, rf_s, true_or, or_true, t2, k1.1, a2]
    refine Txt_dig_c (by omega) (fun c1 => ?_) (fun c1 => ?_)
    · rw [if_pos c1] at hr
      refine B_Text_parseInto_41 ?_
      simp only [wp_cons, wp_nil, List.getElem?_cons_zero, List.getElem?_cons_succ, List.set_cons_zero, List.set_cons_succ, s_ifCond_eq, p1_s, true_and, and_true, Nat.le_refl, true_implies, forall_const, not_false_eq_true, false_implies, not_true_eq_false, reduceCtorEq, tl_s, tl_n, rf_s, List.cons_append, List.nil_append, true_or, or_true, t2, k1.1, a2]
      refine b_eq (by omega) (by omega) (fun cc => absurd cc (by omega)) (fun cc => ?_)
      refine B_Text_parseInto_44 ?_
      simp only [wp_cons, wp_nil, List.getElem?_cons_zero, List.getElem?_cons_succ, List.set_cons_zero, List.set_cons_succ, s_bipush, s_iload_n3, ldI_s, s_imul, p2_s, I_mul, s_iload, s_isub, I_sub, s_iadd, I_add, s_istore_n3, p1_s, s1_0, s1_s, kx_i, kx_r, kx_n, kx_l, kx_0, s_goto, true_and, and_true, Nat.le_refl, true_implies, forall_const, not_false_eq_true, false_implies, not_true_eq_false, reduceCtorEq, tl_s, tl_n, rf_s, List.cons_append, List.nil_append, true_or, or_true, t2, k1.1, a2]
      refine B_Text_parseInto_135 ?_
      simp only [wp_cons, wp_nil, List.getElem?_cons_zero, List.getElem?_cons_succ, List.set_cons_zero, List.set_cons_succ, s_iinc, ldI_s, s1_0, s1_s, kx_i, kx_r, kx_n, kx_l, kx_0, I_add, s_goto, true_and, and_true, Nat.le_refl, true_implies, forall_const, not_false_eq_true, false_implies, not_true_eq_false, reduceCtorEq, tl_s, tl_n, rf_s, List.cons_append, List.nil_append, true_or, or_true, t2, k1.1, a2]
      exact ih (i + 1) h A C z x _ _ _ _ (by omega) (s1 c1) hd2 hr hc ht hs ha
    rw [if_neg c1] at hr
    by_cases c2 : pg T i = 44
    · rw [if_pos c2] at hr
      refine B_Text_parseInto_41 ?_
      simp only [wp_cons, wp_nil, List.getElem?_cons_zero, List.getElem?_cons_succ, List.set_cons_zero, List.set_cons_succ, s_ifCond_eq, p1_s, true_and, and_true, Nat.le_refl, true_implies, forall_const, not_false_eq_true, false_implies, not_true_eq_false, reduceCtorEq, tl_s, tl_n, rf_s, List.cons_append, List.nil_append, true_or, or_true, t2, k1.1, a2]
      refine B_Text_parseInto_58 ?_
      simp only [wp_cons, wp_nil, List.getElem?_cons_zero, List.getElem?_cons_succ, List.set_cons_zero, List.set_cons_succ, s_iload, ldI_s, s_bipush, s_if_icmp_ne, p2_s, true_and, and_true, Nat.le_refl, true_implies, forall_const, not_false_eq_true, false_implies, not_true_eq_false, reduceCtorEq, tl_s, tl_n, rf_s, List.cons_append, List.nil_append, true_or, or_true, t2, k1.1, a2]
      refine b_ne (by omega) (by omega) (fun cc => absurd cc (by omega)) (fun cc => ?_)
      refine B_Text_parseInto_65 ?_
      simp only [wp_cons, wp_nil, List.getElem?_cons_zero, List.getElem?_cons_succ, List.set_cons_zero, List.set_cons_succ, s_iload_n3, ldI_s, s_istore_n2, p1_s, s1_0, s1_s, kx_i, kx_r, kx_n, kx_l, kx_0, s_goto, true_and, and_true, Nat.le_refl, true_implies, forall_const, not_false_eq_true, false_implies, not_true_eq_false, reduceCtorEq, tl_s, tl_n, rf_s, List.cons_append, List.nil_append, true_or, or_true, t2, k1.1, a2]
      refine B_Text_parseInto_111 ?_
      simp only [wp_cons, wp_nil, List.getElem?_cons_zero, List.getElem?_cons_succ, List.set_cons_zero, List.set_cons_succ, s_iconst, s_istore_n3, p1_s, s1_0, s1_s, kx_i, kx_r, kx_n, kx_l, kx_0, s_iload, ldI_s, s_bipush, s_if_icmp_ne, p2_s, true_and, and_true, Nat.le_refl, true_implies, forall_const, not_false_eq_true, false_implies, not_true_eq_false, reduceCtorEq, tl_s, tl_n, rf_s, List.cons_append, List.nil_append, true_or, or_true, t2, k1.1, a2]
      refine b_ne (by omega) (by omega) (fun cc => ?_) (fun cc => absurd cc (by omega))
      refine B_Text_parseInto_135 ?_
      simp only [wp_cons, wp_nil, List.getElem?_cons_zero, List.getElem?_cons_succ, List.set_cons_zero, List.set_cons_succ, s_iinc, ldI_s, s1_0, s1_s, kx_i, kx_r, kx_n, kx_l, kx_0, I_add, s_goto, true_and, and_true, Nat.le_refl, true_implies, forall_const, not_false_eq_true, false_implies, not_true_eq_false, reduceCtorEq, tl_s, tl_n, rf_s, List.cons_append, List.nil_append, true_or, or_true, t2, k1.1, a2]
      exact ih (i + 1) h A C z n 0 _ _ _ (by omega) (s2 c1 c2).2 hd2 hr hc ht hs ha
    rw [if_neg c2] at hr
    by_cases c3 : pg T i = 59
    · rw [if_pos c3] at hr
      have s5 := (s3 c1 c2 c3).2.2
      cases z with
      | true =>
        have hz : sz true = 1 := rfl
        rw [if_pos rfl] at hr s5
        refine B_Text_parseInto_41 ?_
        simp only [wp_cons, wp_nil, List.getElem?_cons_zero, List.getElem?_cons_succ, List.set_cons_zero, List.set_cons_succ, s_ifCond_eq, p1_s, true_and, and_true, Nat.le_refl, true_implies, forall_const, not_false_eq_true, false_implies, not_true_eq_false, reduceCtorEq, tl_s, tl_n, rf_s, List.cons_append, List.nil_append, true_or, or_true, t2, k1.1, a2, hz]
        refine B_Text_parseInto_58 ?_
        simp only [wp_cons, wp_nil, List.getElem?_cons_zero, List.getElem?_cons_succ, List.set_cons_zero, List.set_cons_succ, s_iload, ldI_s, s_bipush, s_if_icmp_ne, p2_s, true_and, and_true, Nat.le_refl, true_implies, forall_const, not_false_eq_true, false_implies, not_true_eq_false, reduceCtorEq, tl_s, tl_n, rf_s, List.cons_append, List.nil_append, true_or, or_true, t2, k1.1, a2, hz]
        refine b_ne (by omega) (by omega) (fun cc => ?_) (fun cc => absurd cc (by omega))
        refine B_Text_parseInto_70 ?_
        simp only [wp_cons, wp_nil, List.getElem?_cons_zero, List.getElem?_cons_succ, List.set_cons_zero, List.set_cons_succ, s_aload_n0, ldA_r, ldA_n, s_getfield, pR_s, ob_s, gt_s, s_ifCond_ne, p1_s, true_and, and_true, Nat.le_refl, true_implies, forall_const, not_false_eq_true, false_implies, not_true_eq_false, reduceCtorEq, tl_s, tl_n, rf_s, List.cons_append, List.nil_append, true_or, or_true, t2, k1.1, a2, hz]
        refine b_ne (by omega) (by omega) (fun cc => ?_) (fun cc => absurd cc (by omega))
        refine B_Text_parseInto_111 ?_
        simp only [wp_cons, wp_nil, List.getElem?_cons_zero, List.getElem?_cons_succ, List.set_cons_zero, List.set_cons_succ, s_iconst, s_istore_n3, p1_s, s1_0, s1_s, kx_i, kx_r, kx_n, kx_l, kx_0, s_iload, ldI_s, s_bipush, s_if_icmp_ne, p2_s, true_and, and_true, Nat.le_refl, true_implies, forall_const, not_false_eq_true, false_implies, not_true_eq_false, reduceCtorEq, tl_s, tl_n, rf_s, List.cons_append, List.nil_append, true_or, or_true, t2, k1.1, a2, hz]
        refine b_ne (by omega) (by omega) (fun cc => absurd cc (by omega)) (fun cc => ?_)
        refine B_Text_parseInto_120 ?_
        simp only [wp_cons, wp_nil, List.getElem?_cons_zero, List.getElem?_cons_succ, List.set_cons_zero, List.set_cons_succ, s_aload_n1, ldA_r, ldA_n, s_aload_n0, s_getfield, pR_s, ob_s, gt_s, s_invokevirtual, rc_s, List.drop_succ_cons, List.drop_zero, List.take_succ_cons, List.take_zero, List.reverse_cons, List.reverse_nil, List.nil_append, List.cons_append, List.length_cons, List.length_nil, d1, Int.reduceToNat, Nat.reduceAdd, Nat.reduceLeDiff, true_and, and_true, Nat.le_refl, true_implies, forall_const, not_false_eq_true, false_implies, not_true_eq_false, reduceCtorEq, tl_s, tl_n, rf_s, true_or, or_true, t2, k1.1, a2, hz]
        refine Drawing_append_c (by omega) ha hA hs (by omega) (fun h1 c1 b1 => ?_)
        have ht1 := ht.kp c1 (by omega)
        have hs1 := hs.kp c1 (by omega)
        obtain ⟨t1, t2, ⟨f, t3, t4⟩⟩ := id ht1
        obtain ⟨g, k1, k2, k3⟩ := id hs1
        refine B_Text_parseInto_128 ?_
        simp only [wp_cons, wp_nil, List.getElem?_cons_zero, List.getElem?_cons_succ, List.set_cons_zero, List.set_cons_succ, s_aload_n0, ldA_r, ldA_n, s_getfield, pR_s, ob_s, gt_s, s_invokevirtual, rc_s, List.drop_succ_cons, List.drop_zero, List.take_succ_cons, List.take_zero, List.reverse_cons, List.reverse_nil, List.nil_append, List.cons_append, List.length_cons, List.length_nil, d1, Int.reduceToNat, Nat.reduceAdd, Nat.reduceLeDiff, true_and, and_true, Nat.le_refl, true_implies, forall_const, not_false_eq_true, false_implies, not_true_eq_false, reduceCtorEq, tl_s, tl_n, rf_s, true_or, or_true, t2, k1.1, a2]
        refine Stroke_empty_c hs1.x (fun h2 c2 s2 => ?_)
        refine B_Text_parseInto_135 ?_
        simp only [wp_cons, wp_nil, List.getElem?_cons_zero, List.getElem?_cons_succ, List.set_cons_zero, List.set_cons_succ, s_iinc, ldI_s, s1_0, s1_s, kx_i, kx_r, kx_n, kx_l, kx_0, I_add, s_goto, true_and, and_true, Nat.le_refl, true_implies, forall_const, not_false_eq_true, false_implies, not_true_eq_false, reduceCtorEq, tl_s, tl_n, rf_s, List.cons_append, List.nil_append, true_or, or_true, t2, k1.1, a2]
        exact ih (i + 1) h2 _ _ _ _ _ _ _ _ (by omega) s5 hd2 hr ((hc.tr (c1.t2 (by omega) (by omega))).tr (c2.t1 (by omega) (by omega))) (ht1.kp c2 (by omega)) s2 (b1.kp c2 (by omega))
      | false =>
        have hz : sz false = 0 := rfl
        rw [if_neg (by decide)] at hr s5
        refine B_Text_parseInto_41 ?_
        simp only [wp_cons, wp_nil, List.getElem?_cons_zero, List.getElem?_cons_succ, List.set_cons_zero, List.set_cons_succ, s_ifCond_eq, p1_s, true_and, and_true, Nat.le_refl, true_implies, forall_const, not_false_eq_true, false_implies, not_true_eq_false, reduceCtorEq, tl_s, tl_n, rf_s, List.cons_append, List.nil_append, true_or, or_true, t2, k1.1, a2, hz]
        refine B_Text_parseInto_58 ?_
        simp only [wp_cons, wp_nil, List.getElem?_cons_zero, List.getElem?_cons_succ, List.set_cons_zero, List.set_cons_succ, s_iload, ldI_s, s_bipush, s_if_icmp_ne, p2_s, true_and, and_true, Nat.le_refl, true_implies, forall_const, not_false_eq_true, false_implies, not_true_eq_false, reduceCtorEq, tl_s, tl_n, rf_s, List.cons_append, List.nil_append, true_or, or_true, t2, k1.1, a2, hz]
        refine b_ne (by omega) (by omega) (fun cc => ?_) (fun cc => absurd cc (by omega))
        refine B_Text_parseInto_70 ?_
        simp only [wp_cons, wp_nil, List.getElem?_cons_zero, List.getElem?_cons_succ, List.set_cons_zero, List.set_cons_succ, s_aload_n0, ldA_r, ldA_n, s_getfield, pR_s, ob_s, gt_s, s_ifCond_ne, p1_s, true_and, and_true, Nat.le_refl, true_implies, forall_const, not_false_eq_true, false_implies, not_true_eq_false, reduceCtorEq, tl_s, tl_n, rf_s, List.cons_append, List.nil_append, true_or, or_true, t2, k1.1, a2, hz]
        refine B_Text_parseInto_80 ?_
        simp only [wp_cons, wp_nil, List.getElem?_cons_zero, List.getElem?_cons_succ, List.set_cons_zero, List.set_cons_succ, s_aload_n0, ldA_r, ldA_n, s_getfield, pR_s, ob_s, gt_s, s_iload_n2, ldI_s, s_iload_n3, s_invokestatic, rc_s, List.drop_succ_cons, List.drop_zero, List.take_succ_cons, List.take_zero, List.reverse_cons, List.reverse_nil, List.nil_append, List.cons_append, List.length_cons, List.length_nil, Nat.reduceEqDiff, reduceIte, p1_s, p2_s, l1_s, d1, Int.reduceToNat, Nat.reduceAdd, Nat.reduceLeDiff, true_and, and_true, Nat.le_refl, true_implies, forall_const, not_false_eq_true, false_implies, not_true_eq_false, reduceCtorEq, tl_s, tl_n, rf_s, true_or, or_true, t2, k1.1, a2, hz]
        refine Plane_told_c ?_
        refine B_Text_parseInto_89 ?_
        simp only [wp_cons, wp_nil, List.getElem?_cons_zero, List.getElem?_cons_succ, List.set_cons_zero, List.set_cons_succ, s_invokevirtual, rc_s, ob_s, List.drop_succ_cons, List.drop_zero, List.take_succ_cons, List.take_zero, List.reverse_cons, List.reverse_nil, List.nil_append, List.cons_append, List.length_cons, List.length_nil, d1, Int.reduceToNat, Nat.reduceAdd, Nat.reduceLeDiff, true_and, and_true, Nat.le_refl, true_implies, forall_const, not_false_eq_true, false_implies, not_true_eq_false, reduceCtorEq, tl_s, tl_n, rf_s, true_or, or_true, t2, k1.1, a2]
        refine Stroke_add_c hs hC (fun h1 c1 b1 => ?_)
        have ht1 := ht.kp c1 (by omega)
        have ha1 := ha.kp c1 (by omega)
        have b2 := b1.cl false
        have c2 : ∀ v, chg (a + 2) (a + 4) h1 (h1.set (a + 2) v) := fun v => chg.set _ (by omega)
        obtain ⟨t1, t2, ⟨f, t3, t4⟩⟩ := id ht1
        obtain ⟨g, k1, k2, k3⟩ := id b1
        have ht2 := ht1.kp (c2 (.inr (.inr (2, [.ref (a + 2 + 1), .int (I ((C ++ [1000 * x + n]).length : Int)), .int (I (sz false))])))) (by omega)
        have ha2 := ha1.kp (c2 (.inr (.inr (2, [.ref (a + 2 + 1), .int (I ((C ++ [1000 * x + n]).length : Int)), .int (I (sz false))])))) (by omega)
        obtain ⟨u1, u2, ⟨f2, u3, u4⟩⟩ := id ht2
        obtain ⟨v1, v2, v3⟩ := id ha2
        rw [hz] at u2 v2
        refine B_Text_parseInto_92 ?_
        simp only [wp_cons, wp_nil, List.getElem?_cons_zero, List.getElem?_cons_succ, List.set_cons_zero, List.set_cons_succ, s_aload_n0, ldA_r, ldA_n, s_getfield, pR_s, ob_s, gt_s, s_iload, ldI_s, s_bipush, s_if_icmp_ne, p2_s, true_and, and_true, Nat.le_refl, true_implies, forall_const, not_false_eq_true, false_implies, not_true_eq_false, reduceCtorEq, tl_s, tl_n, rf_s, List.cons_append, List.nil_append, true_or, or_true, t2, k1.1, u2, v2, Nat.reduceLT, Nat.reduceAdd]
        refine b_ne (by omega) (by omega) (fun cc => ?_) (fun cc => absurd cc (by omega))
        refine B_Text_parseInto_107 ?_
        simp only [wp_cons, wp_nil, List.getElem?_cons_zero, List.getElem?_cons_succ, List.set_cons_zero, List.set_cons_succ, s_iconst, true_and, and_true, Nat.le_refl, true_implies, forall_const, not_false_eq_true, false_implies, not_true_eq_false, reduceCtorEq, tl_s, tl_n, rf_s, List.cons_append, List.nil_append, true_or, or_true, t2, k1.1, u2, v2, Nat.reduceLT, Nat.reduceAdd]
        refine B_Text_parseInto_108 ?_
        simp only [wp_cons, wp_nil, List.getElem?_cons_zero, List.getElem?_cons_succ, List.set_cons_zero, List.set_cons_succ, s_putfield, pv_i, pv_z, pv_r, pv_f, ob_s, z_01, z_11, List.length_cons, List.length_nil, true_and, and_true, Nat.le_refl, true_implies, forall_const, not_false_eq_true, false_implies, not_true_eq_false, reduceCtorEq, tl_s, tl_n, rf_s, List.cons_append, List.nil_append, true_or, or_true, t2, k1.1, u2, v2, Nat.reduceLT, Nat.reduceAdd]
        refine B_Text_parseInto_111 ?_
        simp only [wp_cons, wp_nil, List.getElem?_cons_zero, List.getElem?_cons_succ, List.set_cons_zero, List.set_cons_succ, s_iconst, s_istore_n3, p1_s, s1_0, s1_s, kx_i, kx_r, kx_n, kx_l, kx_0, s_iload, ldI_s, s_bipush, s_if_icmp_ne, p2_s, true_and, and_true, Nat.le_refl, true_implies, forall_const, not_false_eq_true, false_implies, not_true_eq_false, reduceCtorEq, tl_s, tl_n, rf_s, List.cons_append, List.nil_append, true_or, or_true, t2, k1.1, u2, v2, Nat.reduceLT, Nat.reduceAdd]
        refine b_ne (by omega) (by omega) (fun cc => absurd cc (by omega)) (fun cc => ?_)
        refine B_Text_parseInto_120 ?_
        simp only [wp_cons, wp_nil, List.getElem?_cons_zero, List.getElem?_cons_succ, List.set_cons_zero, List.set_cons_succ, s_aload_n1, ldA_r, ldA_n, s_aload_n0, s_getfield, pR_s, ob_s, gt_s, s_invokevirtual, rc_s, List.drop_succ_cons, List.drop_zero, List.take_succ_cons, List.take_zero, List.reverse_cons, List.reverse_nil, List.nil_append, List.cons_append, List.length_cons, List.length_nil, d1, Int.reduceToNat, Nat.reduceAdd, Nat.reduceLeDiff, true_and, and_true, Nat.le_refl, true_implies, forall_const, not_false_eq_true, false_implies, not_true_eq_false, reduceCtorEq, tl_s, tl_n, rf_s, true_or, or_true, t2, k1.1, u2, v2, Nat.reduceLT]
        refine Drawing_append_c (by omega) ha2 hA b2 (by omega) (fun h3 c3 b3 => ?_)
        have ht3 := ht2.kp c3 (by omega)
        have hs3 := b2.kp c3 (by omega)
        obtain ⟨t1, t2, ⟨f, t3, t4⟩⟩ := id ht3
        obtain ⟨g, k1, k2, k3⟩ := id hs3
        refine B_Text_parseInto_128 ?_
        simp only [wp_cons, wp_nil, List.getElem?_cons_zero, List.getElem?_cons_succ, List.set_cons_zero, List.set_cons_succ, s_aload_n0, ldA_r, ldA_n, s_getfield, pR_s, ob_s, gt_s, s_invokevirtual, rc_s, List.drop_succ_cons, List.drop_zero, List.take_succ_cons, List.take_zero, List.reverse_cons, List.reverse_nil, List.nil_append, List.cons_append, List.length_cons, List.length_nil, d1, Int.reduceToNat, Nat.reduceAdd, Nat.reduceLeDiff, true_and, and_true, Nat.le_refl, true_implies, forall_const, not_false_eq_true, false_implies, not_true_eq_false, reduceCtorEq, tl_s, tl_n, rf_s, true_or, or_true, t2, k1.1]
        refine Stroke_empty_c hs3.x (fun h4 c4 s4 => ?_)
        refine B_Text_parseInto_135 ?_
        simp only [wp_cons, wp_nil, List.getElem?_cons_zero, List.getElem?_cons_succ, List.set_cons_zero, List.set_cons_succ, s_iinc, ldI_s, s1_0, s1_s, kx_i, kx_r, kx_n, kx_l, kx_0, I_add, s_goto, true_and, and_true, Nat.le_refl, true_implies, forall_const, not_false_eq_true, false_implies, not_true_eq_false, reduceCtorEq, tl_s, tl_n, rf_s, List.cons_append, List.nil_append, true_or, or_true, t2, k1.1]
        exact ih (i + 1) h4 _ _ _ _ _ _ _ _ (by omega) s5 hd2 hr ((((hc.tr (c1.t1 (by omega) (by omega))).tr ((c2 _).t1 (by omega) (by omega))).tr (c3.t2 (by omega) (by omega))).tr (c4.t1 (by omega) (by omega))) (ht3.kp c4 (by omega)) s4 (b3.kp c4 (by omega))
    rw [if_neg c3] at hr
    obtain ⟨e1, rfl, e3, e4⟩ := s4 c1 c2 c3
    have hz : sz false = 0 := rfl
    have hz1 : sz true = 1 := rfl
    rw [if_neg (by decide), if_neg (by decide)] at hr
    refine B_Text_parseInto_41 ?_
    simp only [wp_cons, wp_nil, List.getElem?_cons_zero, List.getElem?_cons_succ, List.set_cons_zero, List.set_cons_succ, s_ifCond_eq, p1_s, true_and, and_true, Nat.le_refl, true_implies, forall_const, not_false_eq_true, false_implies, not_true_eq_false, reduceCtorEq, tl_s, tl_n, rf_s, List.cons_append, List.nil_append, true_or, or_true, t2, k1.1, a2, hz]
    refine B_Text_parseInto_58 ?_
    simp only [wp_cons, wp_nil, List.getElem?_cons_zero, List.getElem?_cons_succ, List.set_cons_zero, List.set_cons_succ, s_iload, ldI_s, s_bipush, s_if_icmp_ne, p2_s, true_and, and_true, Nat.le_refl, true_implies, forall_const, not_false_eq_true, false_implies, not_true_eq_false, reduceCtorEq, tl_s, tl_n, rf_s, List.cons_append, List.nil_append, true_or, or_true, t2, k1.1, a2, hz]
    refine b_ne (by omega) (by omega) (fun cc => ?_) (fun cc => absurd cc (by omega))
    refine B_Text_parseInto_70 ?_
    simp only [wp_cons, wp_nil, List.getElem?_cons_zero, List.getElem?_cons_succ, List.set_cons_zero, List.set_cons_succ, s_aload_n0, ldA_r, ldA_n, s_getfield, pR_s, ob_s, gt_s, s_ifCond_ne, p1_s, true_and, and_true, Nat.le_refl, true_implies, forall_const, not_false_eq_true, false_implies, not_true_eq_false, reduceCtorEq, tl_s, tl_n, rf_s, List.cons_append, List.nil_append, true_or, or_true, t2, k1.1, a2, hz]
    refine B_Text_parseInto_80 ?_
    simp only [wp_cons, wp_nil, List.getElem?_cons_zero, List.getElem?_cons_succ, List.set_cons_zero, List.set_cons_succ, s_aload_n0, ldA_r, ldA_n, s_getfield, pR_s, ob_s, gt_s, s_iload_n2, ldI_s, s_iload_n3, s_invokestatic, rc_s, List.drop_succ_cons, List.drop_zero, List.take_succ_cons, List.take_zero, List.reverse_cons, List.reverse_nil, List.nil_append, List.cons_append, List.length_cons, List.length_nil, Nat.reduceEqDiff, reduceIte, p1_s, p2_s, l1_s, d1, Int.reduceToNat, Nat.reduceAdd, Nat.reduceLeDiff, true_and, and_true, Nat.le_refl, true_implies, forall_const, not_false_eq_true, false_implies, not_true_eq_false, reduceCtorEq, tl_s, tl_n, rf_s, true_or, or_true, t2, k1.1, a2, hz]
    refine Plane_told_c ?_
    refine B_Text_parseInto_89 ?_
    simp only [wp_cons, wp_nil, List.getElem?_cons_zero, List.getElem?_cons_succ, List.set_cons_zero, List.set_cons_succ, s_invokevirtual, rc_s, ob_s, List.drop_succ_cons, List.drop_zero, List.take_succ_cons, List.take_zero, List.reverse_cons, List.reverse_nil, List.nil_append, List.cons_append, List.length_cons, List.length_nil, d1, Int.reduceToNat, Nat.reduceAdd, Nat.reduceLeDiff, true_and, and_true, Nat.le_refl, true_implies, forall_const, not_false_eq_true, false_implies, not_true_eq_false, reduceCtorEq, tl_s, tl_n, rf_s, true_or, or_true, t2, k1.1, a2]
    refine Stroke_add_c hs hC (fun h1 c1 b1 => ?_)
    have ht1 := ht.kp c1 (by omega)
    have ha1 := ha.kp c1 (by omega)
    have c2 : ∀ v, chg (a + 2) (a + 4) h1 (h1.set (a + 2) v) := fun v => chg.set _ (by omega)
    obtain ⟨t1, t2, ⟨f, t3, t4⟩⟩ := id ht1
    obtain ⟨g, k1, k2, k3⟩ := id b1
    by_cases c4 : pg T i = 122
    · rw [show decide (pg T i = 122) = true by simpa using c4] at hr e4
      have b2 := b1.cl true
      refine B_Text_parseInto_92 ?_
      simp only [wp_cons, wp_nil, List.getElem?_cons_zero, List.getElem?_cons_succ, List.set_cons_zero, List.set_cons_succ, s_aload_n0, ldA_r, ldA_n, s_getfield, pR_s, ob_s, gt_s, s_iload, ldI_s, s_bipush, s_if_icmp_ne, p2_s, true_and, and_true, Nat.le_refl, true_implies, forall_const, not_false_eq_true, false_implies, not_true_eq_false, reduceCtorEq, tl_s, tl_n, rf_s, List.cons_append, List.nil_append, true_or, or_true, t2, k1.1, Nat.reduceLT, Nat.reduceAdd]
      refine b_ne (by omega) (by omega) (fun cc => absurd cc (by omega)) (fun cc => ?_)
      refine B_Text_parseInto_103 ?_
      simp only [wp_cons, wp_nil, List.getElem?_cons_zero, List.getElem?_cons_succ, List.set_cons_zero, List.set_cons_succ, s_iconst, s_goto, true_and, and_true, Nat.le_refl, true_implies, forall_const, not_false_eq_true, false_implies, not_true_eq_false, reduceCtorEq, tl_s, tl_n, rf_s, List.cons_append, List.nil_append, true_or, or_true, t2, k1.1, Nat.reduceLT, Nat.reduceAdd]
      refine B_Text_parseInto_108 ?_
      simp only [wp_cons, wp_nil, List.getElem?_cons_zero, List.getElem?_cons_succ, List.set_cons_zero, List.set_cons_succ, s_putfield, pv_i, pv_z, pv_r, pv_f, ob_s, z_01, z_11, List.length_cons, List.length_nil, true_and, and_true, Nat.le_refl, true_implies, forall_const, not_false_eq_true, false_implies, not_true_eq_false, reduceCtorEq, tl_s, tl_n, rf_s, List.cons_append, List.nil_append, true_or, or_true, t2, k1.1, Nat.reduceLT, Nat.reduceAdd]
      refine B_Text_parseInto_111 ?_
      simp only [wp_cons, wp_nil, List.getElem?_cons_zero, List.getElem?_cons_succ, List.set_cons_zero, List.set_cons_succ, s_iconst, s_istore_n3, p1_s, s1_0, s1_s, kx_i, kx_r, kx_n, kx_l, kx_0, s_iload, ldI_s, s_bipush, s_if_icmp_ne, p2_s, true_and, and_true, Nat.le_refl, true_implies, forall_const, not_false_eq_true, false_implies, not_true_eq_false, reduceCtorEq, tl_s, tl_n, rf_s, List.cons_append, List.nil_append, true_or, or_true, t2, k1.1, Nat.reduceLT, Nat.reduceAdd]
      refine b_ne (by omega) (by omega) (fun cc => ?_) (fun cc => absurd cc (by omega))
      refine B_Text_parseInto_135 ?_
      simp only [wp_cons, wp_nil, List.getElem?_cons_zero, List.getElem?_cons_succ, List.set_cons_zero, List.set_cons_succ, s_iinc, ldI_s, s1_0, s1_s, kx_i, kx_r, kx_n, kx_l, kx_0, I_add, s_goto, true_and, and_true, Nat.le_refl, true_implies, forall_const, not_false_eq_true, false_implies, not_true_eq_false, reduceCtorEq, tl_s, tl_n, rf_s, List.cons_append, List.nil_append, true_or, or_true, t2, k1.1, Nat.reduceLT, Nat.reduceAdd]
      exact ih (i + 1) _ _ _ _ _ _ _ _ _ (by omega) e4 hd2 hr ((hc.tr (c1.t1 (by omega) (by omega))).tr ((c2 _).t1 (by omega) (by omega))) (ht1.kp (c2 _) (by omega)) b2 (ha1.kp (c2 _) (by omega))
    · rw [show decide (pg T i = 122) = false by simpa using c4] at hr e4
      have b2 := b1.cl false
      refine B_Text_parseInto_92 ?_
      simp only [wp_cons, wp_nil, List.getElem?_cons_zero, List.getElem?_cons_succ, List.set_cons_zero, List.set_cons_succ, s_aload_n0, ldA_r, ldA_n, s_getfield, pR_s, ob_s, gt_s, s_iload, ldI_s, s_bipush, s_if_icmp_ne, p2_s, true_and, and_true, Nat.le_refl, true_implies, forall_const, not_false_eq_true, false_implies, not_true_eq_false, reduceCtorEq, tl_s, tl_n, rf_s, List.cons_append, List.nil_append, true_or, or_true, t2, k1.1, Nat.reduceLT, Nat.reduceAdd]
      refine b_ne (by omega) (by omega) (fun cc => ?_) (fun cc => absurd cc (by omega))
      refine B_Text_parseInto_107 ?_
      simp only [wp_cons, wp_nil, List.getElem?_cons_zero, List.getElem?_cons_succ, List.set_cons_zero, List.set_cons_succ, s_iconst, true_and, and_true, Nat.le_refl, true_implies, forall_const, not_false_eq_true, false_implies, not_true_eq_false, reduceCtorEq, tl_s, tl_n, rf_s, List.cons_append, List.nil_append, true_or, or_true, t2, k1.1, Nat.reduceLT, Nat.reduceAdd]
      refine B_Text_parseInto_108 ?_
      simp only [wp_cons, wp_nil, List.getElem?_cons_zero, List.getElem?_cons_succ, List.set_cons_zero, List.set_cons_succ, s_putfield, pv_i, pv_z, pv_r, pv_f, ob_s, z_01, z_11, List.length_cons, List.length_nil, true_and, and_true, Nat.le_refl, true_implies, forall_const, not_false_eq_true, false_implies, not_true_eq_false, reduceCtorEq, tl_s, tl_n, rf_s, List.cons_append, List.nil_append, true_or, or_true, t2, k1.1, Nat.reduceLT, Nat.reduceAdd]
      refine B_Text_parseInto_111 ?_
      simp only [wp_cons, wp_nil, List.getElem?_cons_zero, List.getElem?_cons_succ, List.set_cons_zero, List.set_cons_succ, s_iconst, s_istore_n3, p1_s, s1_0, s1_s, kx_i, kx_r, kx_n, kx_l, kx_0, s_iload, ldI_s, s_bipush, s_if_icmp_ne, p2_s, true_and, and_true, Nat.le_refl, true_implies, forall_const, not_false_eq_true, false_implies, not_true_eq_false, reduceCtorEq, tl_s, tl_n, rf_s, List.cons_append, List.nil_append, true_or, or_true, t2, k1.1, Nat.reduceLT, Nat.reduceAdd]
      refine b_ne (by omega) (by omega) (fun cc => ?_) (fun cc => absurd cc (by omega))
      refine B_Text_parseInto_135 ?_
      simp only [wp_cons, wp_nil, List.getElem?_cons_zero, List.getElem?_cons_succ, List.set_cons_zero, List.set_cons_succ, s_iinc, ldI_s, s1_0, s1_s, kx_i, kx_r, kx_n, kx_l, kx_0, I_add, s_goto, true_and, and_true, Nat.le_refl, true_implies, forall_const, not_false_eq_true, false_implies, not_true_eq_false, reduceCtorEq, tl_s, tl_n, rf_s, List.cons_append, List.nil_append, true_or, or_true, t2, k1.1, Nat.reduceLT, Nat.reduceAdd]
      exact ih (i + 1) _ _ _ _ _ _ _ _ _ (by omega) e4 hd2 hr ((hc.tr (c1.t1 (by omega) (by omega))).tr ((c2 _).t1 (by omega) (by omega))) (ht1.kp (c2 _) (by omega)) b2 (ha1.kp (c2 _) (by omega))
theorem Txt_parse_c {d a dd : Nat} (d3 : 3 ≤ d) {T : List Int} (w : wfT T) (he : errT T = -6) {h : g_H} {Q : g_Po} (hd : a + 4 ≤ dd ∨ dd + 24 ≤ a) (ht : txt h a T) (hx : drX h dd) (hQ : ∀ h', chg2 (a + 2) (a + 4) dd (dd + 24) h h' → txt h' a T → drX h' dd → (∃ pn, drL h' dd (prsT T) pn) → Q none h') : Call Text_parseInto d 0 0 [.ref a, .ref dd] h Q := by
  have d1 : 1 ≤ d := by omega
  obtain ⟨σ, Ss, pn, a0⟩ := hx
  obtain ⟨a1, a2, ⟨f, a3, a4⟩, a5, a6, a7, a8, a9⟩ := id a0
  obtain ⟨t1, t2, ⟨f2, t3, t4⟩, t5⟩ := id ht
  have c1 : ∀ v, chg dd (dd + 1) h (h.set dd v) := fun v => chg.set _ (by omega)
  have k1 : ∀ h v, (List.set h dd v : g_H)[a]? = h[a]? := hs_ne (by omega)
  obtain ⟨n9, z9, f9, q1, q2⟩ := id t5
  have k2 : ∀ h v, (List.set h dd v : g_H)[a + 2]? = h[a + 2]? := hs_ne (by omega)
  refine Call.intro (by rfl) (Nat.le_of_ble_eq_true rfl) ?_
  refine G.eqL (L := [some (.ref _), some (.ref _), none, none, none, none]) rfl ?_
  refine B_Text_parseInto_0 ?_
  simp only [wp_cons, wp_nil, List.getElem?_cons_zero, List.getElem?_cons_succ, List.set_cons_zero, List.set_cons_succ, s_aload_n1, ldA_r, ldA_n, s_iconst, s_putfield, pv_i, pv_z, pv_r, pv_f, ob_s, z_01, z_11, List.length_cons, List.length_nil, s_aload_n0, s_getfield, pR_s, gt_s, s_invokevirtual, rc_s, List.drop_succ_cons, List.drop_zero, List.take_succ_cons, List.take_zero, List.reverse_cons, List.reverse_nil, List.nil_append, List.cons_append, d1, Int.reduceToNat, Nat.reduceAdd, Nat.reduceLeDiff, true_and, and_true, Nat.le_refl, true_implies, forall_const, not_false_eq_true, false_implies, not_true_eq_false, reduceCtorEq, tl_s, tl_n, rf_s, true_or, or_true, a2, t2, k1, q1, k2, Nat.reduceLT]
  refine Stroke_empty_c (t5.kp (c1 _) (by omega)) (fun h2 c2 s2 => ?_)
  have b1 : drw (h.set dd (.inr (.inr (0, [.ref (dd + 1), .ref (dd + 2), .int (I 0)])))) dd σ [] pn := ⟨by simp, h_at _ a2, ⟨f, (h_ne _ (by omega)).trans a3, a4⟩, a5.kp (c1 _) (by omega), a6, a7, fun j hj => (a8 j hj).kp (c1 _) (by have := a6 j hj; omega), fun j hj => absurd hj (by simp)⟩
  refine B_Text_parseInto_12 ?_
  simp only [wp_cons, wp_nil, List.getElem?_cons_zero, List.getElem?_cons_succ, List.set_cons_zero, List.set_cons_succ, s_iconst, s_istore_n2, p1_s, s1_0, s1_s, kx_i, kx_r, kx_n, kx_l, kx_0, s_istore_n3, s_istore, true_and, and_true, Nat.le_refl, true_implies, forall_const, not_false_eq_true, false_implies, not_true_eq_false, reduceCtorEq, tl_s, tl_n, rf_s, List.cons_append, List.nil_append, true_or, or_true, a2, t2, k1, q1, k2, Nat.reduceLT, Nat.reduceAdd]
  exact Txt_parse_l d3 w (h0 := h) hd (fun h' c' t' b' => hQ h' c' t' ⟨_, _, _, b'⟩ ⟨_, _, b'⟩) T.length 0 h2 [] [] false 0 0 0 1 _ (by omega) pinv_0 he rfl (((c1 _).t2 (by omega) (by omega)).tr (c2.t1 (by omega) (by omega))) ((ht.c.kp (c1 _) (by omega)).kp c2 (by omega)) s2 (b1.kp c2 (by omega))
