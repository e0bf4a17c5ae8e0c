/-! ===== the text: its form, and the strokes that it tells ===== -/
def nst (s c p : Int) : Int := if 48 ≤ c ∧ c ≤ 57 then (if s = 3 ∨ 7 ≤ s then -1 else s + 1) else if c = 44 then (if 0 < s ∧ s ≤ 3 then 4 else -1) else if s ≤ 4 then -1 else if c = 59 then (if 2 ≤ p then 0 else -1) else if s = 8 then -1 else if c = 45 then 0 else if c = 122 ∧ 3 ≤ p then 8 else -1
def npt (c p : Int) : Int := if c = 45 then p + 1 else if c = 59 then 1 else p
def dfa (T : List Int) (m i : Nat) (s p : Int) : Int := match m with
  | 0 => if 4 < s ∧ 2 ≤ p then -6 else T.length
  | m + 1 => if nst s (pg T i) p = -1 then i else dfa T m (i + 1) (nst s (pg T i) p) (npt (pg T i) p)
def errT (T : List Int) : Int := dfa T T.length 0 0 1
def wfT (T : List Int) : Prop := T.length ≤ 80 ∧ ∀ i, i < T.length → 33 ≤ pg T i ∧ pg T i ≤ 126
def prs (T : List Int) (m i : Nat) (A : List Stk) (C : List Int) (z : Bool) (x n : Int) : List Stk := match m with
  | 0 => A ++ [(if z = true then C else C ++ [1000 * x + n], z)]
  | m + 1 => if 48 ≤ pg T i ∧ pg T i ≤ 57 then prs T m (i + 1) A C z x (10 * n + (pg T i - 48)) else if pg T i = 44 then prs T m (i + 1) A C z n 0 else if pg T i = 59 then prs T m (i + 1) (A ++ [(if z = true then C else C ++ [1000 * x + n], z)]) [] false x 0 else prs T m (i + 1) A (if z = true then C else C ++ [1000 * x + n]) (if z = true then true else decide (pg T i = 122)) x 0
def prsT (T : List Int) : List Stk := prs T T.length 0 [] [] false 0 0
theorem nst_bd {s c p : Int} (hs : 0 ≤ s ∧ s ≤ 8) : -1 ≤ nst s c p ∧ nst s c p ≤ 8 := by
  unfold nst
  repeat' split
  all_goals omega
/-- a row as it comes out of a text -/
def rawS (S : Stk) : Prop := 2 ≤ S.1.length ∧ S.1.length ≤ 30 ∧ stP S.1 ∧ (S.2 = true → 3 ≤ S.1.length)
def rawL (A : List Stk) : Prop := ∀ i, i < A.length → rawS (sg A i)
theorem rawL_app {A : List Stk} {S : Stk} (h : rawL A) (hS : rawS S) : rawL (A ++ [S]) := by
  intro i hi
  rw [List.length_append] at hi
  by_cases c : i < A.length
  · rw [sg_app_l _ _ c]; exact h i c
  · rw [sg_app_r _ _ (by omega), show i - A.length = 0 by simp at hi; omega]
    exact hS
/-- what holds between reading and checking, at a place of the text -/
def pinv (i : Nat) (A : List Stk) (C : List Int) (z : Bool) (x n s p : Int) : Prop :=
  (0 ≤ s ∧ s ≤ 8) ∧ (z = true → s = 8 ∧ p = C.length ∧ 3 ≤ p) ∧ (z = false → s ≠ 8 ∧ p = C.length + 1) ∧ 8 * A.length + 4 * C.length + (if s = 0 then 0 else if s ≤ 3 then 1 else if s = 4 then 2 else if s ≤ 7 then 3 else 0) ≤ i ∧ (0 ≤ x ∧ x ≤ 999) ∧ 0 ≤ n ∧ (if s = 1 ∨ s = 5 then n ≤ 9 else if s = 2 ∨ s = 6 then n ≤ 99 else if s = 3 ∨ s = 7 then n ≤ 999 else n = 0) ∧ stP C ∧ rawL A
theorem pinv_n {i : Nat} {A : List Stk} {C : List Int} {z : Bool} {x n s p : Int} (h : pinv i A C z x n s p) : (0 ≤ n ∧ n ≤ 999) ∧ 0 ≤ x ∧ x ≤ 999 := by
  obtain ⟨h1, h2, h3, h4, h5, h6, h7, h8, h9⟩ := h
  have : n ≤ 999 := by
    split at h7
    · omega
    · split at h7
      · omega
      · split at h7 <;> omega
  omega
theorem pinv_pt {i : Nat} {A : List Stk} {C : List Int} {z : Bool} {x n s p : Int} (h : pinv i A C z x n s p) : pt (1000 * x + n) := by
  obtain ⟨h1, h2, h3, h4, h5, h6, h7, h8, h9⟩ := h
  have : n ≤ 999 := by
    split at h7
    · omega
    · split at h7
      · omega
      · split at h7 <;> omega
  omega
/-- the row that is closed or ended by a sign behind a whole point -/
theorem pinv_row {i : Nat} {A : List Stk} {C : List Int} {z : Bool} {x n s p : Int} (hi : i ≤ 80) (h : pinv i A C z x n s p) (hs : 4 < s) (hp : 2 ≤ p) : rawS (if z = true then C else C ++ [1000 * x + n], z) ∧ (if z = true then C else C ++ [1000 * x + n]).length = p ∧ 8 * A.length + 4 * (if z = true then C else C ++ [1000 * x + n]).length ≤ i + 1 := by
  have h0 := pinv_pt h
  obtain ⟨h1, h2, h3, h4, h5, h6, h7, h8, h9⟩ := h
  rw [if_neg (by omega), if_neg (by omega), if_neg (by omega)] at h4
  cases z with
  | true =>
    obtain ⟨e1, e2, e3⟩ := h2 rfl
    rw [if_neg (by omega)] at h4
    rw [if_pos rfl]
    exact ⟨⟨by show 2 ≤ C.length; omega, by show C.length ≤ 30; omega, h8, fun _ => by show 3 ≤ C.length; omega⟩, by omega, by omega⟩
  | false =>
    obtain ⟨e1, e2⟩ := h3 rfl
    rw [if_pos (by omega)] at h4
    rw [if_neg (by decide)]
    have hl : (C ++ [1000 * x + n]).length = C.length + 1 := by simp
    exact ⟨⟨by show 2 ≤ (C ++ [1000 * x + n]).length; omega, by show (C ++ [1000 * x + n]).length ≤ 30; omega, stP_app h8 (stP_one h0), fun q => by cases q⟩, by omega, by omega⟩
theorem pinv_step {i : Nat} {A : List Stk} {C : List Int} {z : Bool} {x n s p c : Int} (hi : i < 80) (h : pinv i A C z x n s p) (hn : nst s c p ≠ -1) :
    (48 ≤ c ∧ c ≤ 57 → pinv (i + 1) A C z x (10 * n + (c - 48)) (nst s c p) (npt c p)) ∧ (¬ (48 ≤ c ∧ c ≤ 57) → c = 44 → z = false ∧ pinv (i + 1) A C z n 0 (nst s c p) (npt c p)) ∧ (¬ (48 ≤ c ∧ c ≤ 57) → c ≠ 44 → c = 59 → 4 < s ∧ 2 ≤ p ∧ pinv (i + 1) (A ++ [(if z = true then C else C ++ [1000 * x + n], z)]) [] false x 0 (nst s c p) (npt c p)) ∧
    (¬ (48 ≤ c ∧ c ≤ 57) → c ≠ 44 → c ≠ 59 → 4 < s ∧ z = false ∧ (c = 45 ∨ c = 122) ∧ pinv (i + 1) A (C ++ [1000 * x + n]) (decide (c = 122)) x 0 (nst s c p) (npt c p)) := by
  have h0 := pinv_pt h
  have hn9 := pinv_n h
  have hrow := pinv_row (i := i) (by omega) h
  obtain ⟨h1, h2, h3, h4, h5, h6, h7, h8, h9⟩ := h
  refine ⟨fun d => ?_, fun d e => ?_, fun d e f => ?_, fun d e f => ?_⟩
  · have e1 : nst s c p = s + 1 ∧ ¬ (s = 3 ∨ 7 ≤ s) := by
      unfold nst at hn ⊢
      rw [if_pos d] at hn ⊢
      by_cases q : s = 3 ∨ 7 ≤ s
      · rw [if_pos q] at hn; exact absurd rfl hn
      · rw [if_neg q]; exact ⟨rfl, q⟩
    have e2 : npt c p = p := by unfold npt; rw [if_neg (by omega), if_neg (by omega)]
    have hz : z = false := by
      cases z with
      | true => have := (h2 rfl).1; omega
      | false => rfl
    subst hz
    obtain ⟨q1, q2⟩ := h3 rfl
    rw [e1.1, e2]
    refine ⟨by omega, (fun q => by cases q), fun _ => ⟨by omega, q2⟩, ?_, h5, by omega, ?_, h8, h9⟩
    · have : s = 0 ∨ s = 1 ∨ s = 2 ∨ s = 4 ∨ s = 5 ∨ s = 6 := by omega
      rcases this with q | q | q | q | q | q <;> subst q <;> simp at h4 ⊢ <;> omega
    · have : s = 0 ∨ s = 1 ∨ s = 2 ∨ s = 4 ∨ s = 5 ∨ s = 6 := by omega
      rcases this with q | q | q | q | q | q <;> subst q <;> simp at h7 ⊢ <;> omega
  · subst e
    have e1 : nst s 44 p = 4 ∧ 0 < s ∧ s ≤ 3 := by
      unfold nst at hn ⊢
      rw [if_neg d, if_pos rfl] at hn ⊢
      by_cases q : 0 < s ∧ s ≤ 3
      · rw [if_pos q]; exact ⟨rfl, q⟩
      · rw [if_neg q] at hn; exact absurd rfl hn
    have e2 : npt 44 p = p := by unfold npt; rw [if_neg (by omega), if_neg (by omega)]
    have hz : z = false := by
      cases z with
      | true => have := (h2 rfl).1; omega
      | false => rfl
    subst hz
    obtain ⟨q1, q2⟩ := h3 rfl
    rw [e1.1, e2]
    refine ⟨rfl, by omega, (fun q => by cases q), fun _ => ⟨by omega, q2⟩, ?_, by omega, by omega, by simp, h8, h9⟩
    rw [if_neg (by omega), if_pos (by omega)] at h4
    rw [if_neg (by omega), if_neg (by omega), if_pos (by omega)]
    omega
  · subst f
    have e1 : nst s 59 p = 0 ∧ 4 < s ∧ 2 ≤ p := by
      unfold nst at hn ⊢
      rw [if_neg d, if_neg e] at hn ⊢
      by_cases q : s ≤ 4
      · rw [if_pos q] at hn; exact absurd rfl hn
      · rw [if_neg q, if_pos rfl] at hn ⊢
        by_cases q2 : 2 ≤ p
        · rw [if_pos q2]; exact ⟨rfl, by omega, q2⟩
        · rw [if_neg q2] at hn; exact absurd rfl hn
    have e2 : npt 59 p = 1 := by unfold npt; rw [if_neg (by omega), if_pos rfl]
    obtain ⟨r1, r2, r3⟩ := hrow e1.2.1 e1.2.2
    rw [e1.1, e2]
    refine ⟨e1.2.1, e1.2.2, by omega, fun q => (by cases q), fun _ => ⟨by omega, rfl⟩, ?_, h5, by omega, by simp, stP_nil, rawL_app h9 r1⟩
    rw [if_pos rfl, List.length_append]
    simp only [List.length_cons, List.length_nil]
    omega
  · have e1 : 4 < s ∧ s ≠ 8 ∧ ((c = 45 ∧ nst s c p = 0) ∨ (c = 122 ∧ 3 ≤ p ∧ nst s c p = 8)) := by
      unfold nst at hn ⊢
      rw [if_neg d, if_neg e] at hn ⊢
      by_cases q : s ≤ 4
      · rw [if_pos q] at hn; exact absurd rfl hn
      · rw [if_neg q, if_neg f] at hn ⊢
        by_cases q2 : s = 8
        · rw [if_pos q2] at hn; exact absurd rfl hn
        · rw [if_neg q2] at hn ⊢
          refine ⟨by omega, q2, ?_⟩
          by_cases q3 : c = 45
          · rw [if_pos q3]; exact Or.inl ⟨q3, rfl⟩
          · rw [if_neg q3] at hn ⊢
            by_cases q4 : c = 122 ∧ 3 ≤ p
            · rw [if_pos q4]; exact Or.inr ⟨q4.1, q4.2, rfl⟩
            · rw [if_neg q4] at hn; exact absurd rfl hn
    have hz : z = false := by
      cases z with
      | true => have := (h2 rfl).1; omega
      | false => rfl
    subst hz
    obtain ⟨q1, q2⟩ := h3 rfl
    rw [if_neg (by omega), if_neg (by omega), if_neg (by omega), if_pos (by omega)] at h4
    have hl : (C ++ [1000 * x + n]).length = C.length + 1 := by simp
    refine ⟨e1.1, rfl, by omega, ?_⟩
    rcases e1.2.2 with ⟨c1, c2⟩ | ⟨c1, c2, c3⟩
    · have e2 : npt c p = p + 1 := by unfold npt; rw [if_pos c1]
      rw [c2, e2, show decide (c = 122) = false by simp; omega]
      refine ⟨by omega, fun q => (by cases q), fun _ => ⟨by omega, by omega⟩, ?_, h5, by omega, by simp, stP_app h8 (stP_one h0), h9⟩
      rw [if_pos rfl]; omega
    · have e2 : npt c p = p := by unfold npt; rw [if_neg (by omega), if_neg (by omega)]
      rw [c3, e2, show decide (c = 122) = true by simp; omega]
      refine ⟨by omega, fun _ => ⟨rfl, by omega, c2⟩, fun q => (by cases q), ?_, h5, by omega, by simp, stP_app h8 (stP_one h0), h9⟩
      rw [if_neg (by omega), if_neg (by omega), if_neg (by omega), if_neg (by omega)]; omega
theorem prs_ok {T : List Int} (w : T.length ≤ 80) : ∀ (m i : Nat) (A : List Stk) (C : List Int) (z : Bool) (x n s p : Int), i + m = T.length → pinv i A C z x n s p → dfa T m i s p = -6 → rawL (prs T m i A C z x n) ∧ 1 ≤ (prs T m i A C z x n).length ∧ (prs T m i A C z x n).length ≤ 10 := by
  intro m
  induction m with
  | zero =>
    intro i A C z x n s p hi hv hd
    have hc : 4 < s ∧ 2 ≤ p := by
      unfold dfa at hd
      split at hd
      · assumption
      · omega
    obtain ⟨r1, r2, r3⟩ := pinv_row (by omega) hv hc.1 hc.2
    unfold prs
    have hl : (A ++ [((if z = true then C else C ++ [1000 * x + n]), z)]).length = A.length + 1 := by simp
    refine ⟨rawL_app hv.2.2.2.2.2.2.2.2 r1, by omega, ?_⟩
    have := hv.2.2.2.1
    have h2 := hv.2.1
    have h3 := hv.2.2.1
    cases z with
    | true => have := h2 rfl; omega
    | false => have := h3 rfl; omega
  | succ m ih =>
    intro i A C z x n s p hi hv hd
    have hn : nst s (pg T i) p ≠ -1 := by
      intro q
      have : dfa T (m + 1) i s p = i := if_pos q
      omega
    have hd2 : dfa T m (i + 1) (nst s (pg T i) p) (npt (pg T i) p) = -6 := by
      have : dfa T (m + 1) i s p = dfa T m (i + 1) (nst s (pg T i) p) (npt (pg T i) p) := if_neg hn
      rw [← this]; exact hd
    obtain ⟨s1, s2, s3, s4⟩ := pinv_step (by omega) hv hn
    unfold prs
    by_cases c1 : 48 ≤ pg T i ∧ pg T i ≤ 57
    · rw [if_pos c1]
      exact ih (i + 1) _ _ _ _ _ _ _ (by omega) (s1 c1) hd2
    · rw [if_neg c1]
      by_cases c2 : pg T i = 44
      · rw [if_pos c2]
        exact ih (i + 1) _ _ _ _ _ _ _ (by omega) (s2 c1 c2).2 hd2
      · rw [if_neg c2]
        by_cases c3 : pg T i = 59
        · rw [if_pos c3]
          exact ih (i + 1) _ _ _ _ _ _ _ (by omega) (s3 c1 c2 c3).2.2 hd2
        · rw [if_neg c3]
          obtain ⟨d1, rfl, d3, d4⟩ := s4 c1 c2 c3
          rw [if_neg (by decide), if_neg (by decide)]
          exact ih (i + 1) _ _ _ _ _ _ _ (by omega) d4 hd2
theorem pinv_0 : pinv 0 [] [] false 0 0 0 1 := by
  refine ⟨by omega, (fun q => by cases q), fun _ => ⟨by omega, rfl⟩, by simp, by omega, by omega, by simp, stP_nil, fun i hi => absurd hi (by simp)⟩
theorem prsT_ok {T : List Int} (w : wfT T) (h : errT T = -6) : rawL (prsT T) ∧ 1 ≤ (prsT T).length ∧ (prsT T).length ≤ 10 := prs_ok w.1 T.length 0 [] [] false 0 0 0 1 (by omega) pinv_0 h
/-! the text's cells -/
def txt (h : g_H) (a : Nat) (T : List Int) : Prop := T.length ≤ 80 ∧ h[a]? = some (.inr (.inr (3, [.ref (a + 1), .ref (a + 2), .int (I (T.length : Int))]))) ∧ (∃ f : Nat → Int32, h[a + 1]? = some (.inl (1, 80, f)) ∧ ∀ i, i < T.length → f i = I (pg T i)) ∧ stX h (a + 2)
theorem txt.kp {h h' : g_H} {a lo hi : Nat} {T : List Int} (q : txt h a T) (c : chg lo hi h h') (ho : a + 4 ≤ lo ∨ hi ≤ a) : txt h' a T := by
  obtain ⟨q1, q2, ⟨f, q3, q4⟩, q5⟩ := q
  exact ⟨q1, (c.at (by omega)).trans q2, ⟨f, (c.at (by omega)).trans q3, q4⟩, q5.kp c (by omega)⟩
theorem ch_ok : ∀ c : Nat, c < 127 → ((I (c : Int)).toUInt32 % 65536).toInt32 = I (c : Int) := by decide +kernel
theorem ch_okI {c : Int} (h : 0 ≤ c ∧ c ≤ 126) : ((I c).toUInt32 % 65536).toInt32 = I c := by
  obtain ⟨n, rfl⟩ : ∃ n : Nat, c = n := ⟨c.toNat, by omega⟩
  exact ch_ok n (by omega)
theorem ch_nar {c : Int} (h : 0 ≤ c ∧ c ≤ 126) : vp_nar .char (I c) = I c := ch_okI h
theorem dfa_bd (T : List Int) : ∀ (m i : Nat) (s p : Int), i + m = T.length → dfa T m i s p = -6 ∨ (0 ≤ dfa T m i s p ∧ dfa T m i s p ≤ T.length) := by
  intro m
  induction m with
  | zero => intro i s p hi; unfold dfa; split <;> omega
  | succ m ih =>
    intro i s p hi
    unfold dfa
    split
    · omega
    · exact ih (i + 1) _ _ (by omega)
theorem errT_bd (T : List Int) : errT T = -6 ∨ (0 ≤ errT T ∧ errT T ≤ T.length) := dfa_bd T _ _ _ _ (by omega)
/-! two intervals of cells -/
def chg2 (a b c e : Nat) (h h' : g_H) : Prop := h'.length = h.length ∧ ∀ q : Nat, (q < a ∨ b ≤ q) → (q < c ∨ e ≤ q) → h'[q]? = h[q]?
theorem chg2.rf {a b c e : Nat} {h : g_H} : chg2 a b c e h h := ⟨rfl, fun _ _ _ => rfl⟩
theorem chg2.tr {a b c e : Nat} {h h' h'' : g_H} (x : chg2 a b c e h h') (y : chg2 a b c e h' h'') : chg2 a b c e h h'' := ⟨y.1.trans x.1, fun q h1 h2 => (y.2 q h1 h2).trans (x.2 q h1 h2)⟩
theorem chg.t1 {lo hi : Nat} {a b c e : Nat} {h h' : g_H} (x : chg lo hi h h') (h1 : a ≤ lo) (h2 : hi ≤ b) : chg2 a b c e h h' := ⟨x.1, fun q q1 _ => x.2 q (by omega)⟩
theorem chg.t2 {lo hi : Nat} {a b c e : Nat} {h h' : g_H} (x : chg lo hi h h') (h1 : c ≤ lo) (h2 : hi ≤ e) : chg2 a b c e h h' := ⟨x.1, fun q _ q1 => x.2 q (by omega)⟩
/-- what stands in an interval of cells that are the same stays true -/
theorem chg.pt {P : g_H → Prop} {s k : Nat} (kp : ∀ (lo hi : Nat) (h h' : g_H), chg lo hi h h' → (s + k ≤ lo ∨ hi ≤ s) → P h → P h') {h h' : g_H} (hl : h'.length = h.length) (he : ∀ b, s ≤ b → b < s + k → h'[b]? = h[b]?) (hp : P h) : P h' := by
  have hlen : (h.take s ++ h'.drop s).length = h.length := by
    rw [List.length_append, List.length_take, List.length_drop, hl]; omega
  have hget : ∀ b, (h.take s ++ h'.drop s)[b]? = if b < s then h[b]? else h'[b]? := by
    intro b
    by_cases c : b < s
    · rw [if_pos c]
      by_cases c2 : b < h.length
      · rw [List.getElem?_append_left (by rw [List.length_take]; omega), List.getElem?_take_of_lt c]
      · rw [List.getElem?_eq_none (by omega), List.getElem?_eq_none (by omega)]
    · rw [if_neg c]
      by_cases c2 : s ≤ h.length
      · rw [List.getElem?_append_right (by rw [List.length_take]; omega), List.length_take, List.getElem?_drop]
        congr 1; omega
      · rw [List.getElem?_eq_none (by omega), List.getElem?_eq_none (by omega)]
  have c1 : chg (s + k) (s + k + h.length) h (h.take s ++ h'.drop s) := by
    refine ⟨hlen, fun b hb => ?_⟩
    rw [hget]
    by_cases c : b < s
    · rw [if_pos c]
    · rw [if_neg c]
      by_cases c2 : b < s + k
      · exact he b (by omega) c2
      · rw [List.getElem?_eq_none (by omega), List.getElem?_eq_none (by omega)]
  have c2 : chg 0 s (h.take s ++ h'.drop s) h' := by
    refine ⟨by rw [hlen, hl], fun b hb => ?_⟩
    rw [hget, if_neg (by omega)]
  exact kp _ _ _ _ c2 (Or.inr (Nat.le_refl _)) (kp _ _ _ _ c1 (Or.inl (Nat.le_refl _)) hp)
theorem stL.cl {h : g_H} {s : Nat} {L : List Int} {z0 : Bool} (z : Bool) (q : stL h s (L, z0)) : stL (h.set s (.inr (.inr (2, [.ref (s + 1), .int (I (L.length : Int)), .int (I (sz z))])))) s (L, z) := by
  obtain ⟨f, q1, q2, q3⟩ := q
  exact ⟨f, ⟨h_at _ q1.1, (h_ne _ (by omega)).trans q1.2⟩, q2, q3⟩
def txc (h : g_H) (a : Nat) (T : List Int) : Prop := T.length ≤ 80 ∧ h[a]? = some (.inr (.inr (3, [.ref (a + 1), .ref (a + 2), .int (I (T.length : Int))]))) ∧ ∃ f : Nat → Int32, h[a + 1]? = some (.inl (1, 80, f)) ∧ ∀ i, i < T.length → f i = I (pg T i)
theorem txc.kp {h h' : g_H} {a lo hi : Nat} {T : List Int} (q : txc h a T) (c : chg lo hi h h') (ho : a + 2 ≤ lo ∨ hi ≤ a) : txc h' a T := by
  obtain ⟨q1, q2, ⟨f, q3, q4⟩⟩ := q
  exact ⟨q1, (c.at (by omega)).trans q2, ⟨f, (c.at (by omega)).trans q3, q4⟩⟩
theorem txc.t {h : g_H} {a : Nat} {T : List Int} (q : txc h a T) (s : stX h (a + 2)) : txt h a T := ⟨q.1, q.2.1, q.2.2, s⟩
theorem txt.c {h : g_H} {a : Nat} {T : List Int} (q : txt h a T) : txc h a T := ⟨q.1, q.2.1, q.2.2.1⟩