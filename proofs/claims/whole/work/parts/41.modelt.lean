/-! ===== reading piece by piece, against the text's form ===== -/
def cht (T : List Int) (i : Nat) : Int := if i < T.length then pg T i else -1
def nmv (T : List Int) (i j : Nat) : Int := match j with
  | 0 => 0
  | j + 1 => 10 * nmv T i j + (pg T (i + j) - 48)
abbrev dgt (c : Int) : Prop := 48 ≤ c ∧ c ≤ 57
theorem nmv_bd {T : List Int} {i : Nat} : ∀ j, (∀ k, k < j → dgt (pg T (i + k))) → j ≤ 3 → 0 ≤ nmv T i j ∧ nmv T i j ≤ (if j = 0 then 0 else if j = 1 then 9 else if j = 2 then 99 else 999) := by
  intro j hd hj
  have : j = 0 ∨ j = 1 ∨ j = 2 ∨ j = 3 := by omega
  rcases this with rfl | rfl | rfl | rfl
  · simp [nmv]
  · have h0 := hd 0 (by omega)
    simp [nmv] at h0 ⊢; omega
  · have h0 := hd 0 (by omega)
    have h1 := hd 1 (by omega)
    simp [nmv] at h0 h1 ⊢; omega
  · have h0 := hd 0 (by omega)
    have h1 := hd 1 (by omega)
    have h2 := hd 2 (by omega)
    simp [nmv] at h0 h1 h2 ⊢; omega
theorem nst_dg {s c p : Int} (hc : dgt c) (hs : s ≠ 3) (h7 : s < 7) : nst s c p = s + 1 := by
  unfold nst
  rw [if_pos hc, if_neg (by omega)]
theorem npt_o {c p : Int} (h1 : c ≠ 45) (h2 : c ≠ 59) : npt c p = p := by
  unfold npt
  rw [if_neg h1, if_neg h2]
theorem dfa_go {T : List Int} {i : Nat} {s p : Int} (hi : i < T.length) (hn : nst s (pg T i) p ≠ -1) : dfa T (T.length - i) i s p = dfa T (T.length - (i + 1)) (i + 1) (nst s (pg T i) p) (npt (pg T i) p) := by
  obtain ⟨m, hm⟩ : ∃ m, T.length - i = m + 1 := ⟨T.length - i - 1, by omega⟩
  rw [hm, show T.length - (i + 1) = m by omega]
  exact if_neg hn
theorem dfa_stop {T : List Int} {k : Nat} {s p : Int} (hk : k ≤ T.length) (h1 : k = T.length → ¬ (4 < s ∧ 2 ≤ p)) (h2 : k < T.length → nst s (pg T k) p = -1) : dfa T (T.length - k) k s p = k := by
  by_cases e : k = T.length
  · rw [e, Nat.sub_self]
    exact if_neg (h1 e)
  · obtain ⟨m, hm⟩ : ∃ m, T.length - k = m + 1 := ⟨T.length - k - 1, by omega⟩
    rw [hm]
    exact if_pos (h2 (by omega))
theorem dfa_num {T : List Int} {i : Nat} {s0 p : Int} (hs : s0 = 0 ∨ s0 = 4) : ∀ j, j ≤ 3 → i + j ≤ T.length → (∀ k, k < j → dgt (pg T (i + k))) → dfa T (T.length - i) i s0 p = dfa T (T.length - (i + j)) (i + j) (s0 + j) p := by
  intro j
  induction j with
  | zero => intro _ _ _; simp
  | succ j ih =>
    intro hj hl hd
    have hc := hd j (by omega)
    have e : nst (s0 + j) (pg T (i + j)) p = s0 + (j + 1 : Nat) := by rw [nst_dg hc (by omega) (by omega)]; omega
    rw [ih (by omega) (by omega) (fun k hk => hd k (by omega)), dfa_go (by omega) (by rw [e]; omega), e, npt_o (by omega) (by omega)]
    rfl
theorem prs_num {T : List Int} {i : Nat} {A : List Stk} {C : List Int} {z : Bool} {x : Int} : ∀ j, i + j ≤ T.length → (∀ k, k < j → dgt (pg T (i + k))) → prs T (T.length - i) i A C z x 0 = prs T (T.length - (i + j)) (i + j) A C z x (nmv T i j) := by
  intro j
  induction j with
  | zero => intro _ _; rfl
  | succ j ih =>
    intro hl hd
    have hc := hd j (by omega)
    rw [ih (by omega) (fun k hk => hd k (by omega))]
    obtain ⟨m, hm⟩ : ∃ m, T.length - (i + j) = m + 1 := ⟨T.length - (i + j) - 1, by omega⟩
    rw [hm, show T.length - (i + (j + 1)) = m by omega]
    show (if _ then _ else _) = _
    rw [if_pos hc]
    rfl
theorem prs_go {T : List Int} {i : Nat} {A : List Stk} {C : List Int} {z : Bool} {x n : Int} (hi : i < T.length) : prs T (T.length - i) i A C z x n = if 48 ≤ pg T i ∧ pg T i ≤ 57 then prs T (T.length - (i + 1)) (i + 1) A C z x (10 * n + (pg T i - 48)) else if pg T i = 44 then prs T (T.length - (i + 1)) (i + 1) A C z n 0 else if pg T i = 59 then prs T (T.length - (i + 1)) (i + 1) (A ++ [(if z = true then C else C ++ [1000 * x + n], z)]) [] false x 0 else prs T (T.length - (i + 1)) (i + 1) A (if z = true then C else C ++ [1000 * x + n]) (if z = true then true else decide (pg T i = 122)) x 0 := by
  obtain ⟨m, hm⟩ : ∃ m, T.length - i = m + 1 := ⟨T.length - i - 1, by omega⟩
  rw [hm, show T.length - (i + 1) = m by omega]
  rfl
theorem prs_end {T : List Int} {A : List Stk} {C : List Int} {z : Bool} {x n : Int} : prs T (T.length - T.length) T.length A C z x n = A ++ [(if z = true then C else C ++ [1000 * x + n], z)] := by
  rw [Nat.sub_self]; rfl
theorem prs_len {T : List Int} : ∀ (m i : Nat) (A : List Stk) (C : List Int) (z : Bool) (x n : Int), A.length + 1 ≤ (prs T m i A C z x n).length := by
  intro m
  induction m with
  | zero => intro i A C z x n; unfold prs; simp
  | succ m ih =>
    intro i A C z x n
    unfold prs
    split
    · exact ih _ _ _ _ _ _
    · split
      · exact ih _ _ _ _ _ _
      · split
        · have := ih (i + 1) (A ++ [(if z = true then C else C ++ [1000 * x + n], z)]) [] false x 0
          rw [List.length_append] at this
          simp only [List.length_cons, List.length_nil] at this
          omega
        · exact ih _ _ _ _ _ _
/-- what has been marked as wrong -/
def mkb (b : Int × Int) (sr v : Int) : Int × Int := if b.1 = -6 ∧ v ≠ -6 then (sr, v) else b
theorem mkb_n {b : Int × Int} {sr : Int} : mkb b sr (-6) = b := if_neg (fun q => q.2 rfl)
theorem mkb_t {b : Int × Int} {sr v : Int} (h1 : b.1 = -6) (h2 : v ≠ -6) : mkb b sr v = (sr, v) := if_pos ⟨h1, h2⟩
theorem mkb_f {b : Int × Int} {sr v : Int} (h1 : b.1 ≠ -6) : mkb b sr v = b := if_neg (fun q => h1 q.1)
theorem mkb_2 {b : Int × Int} {sr u v : Int} (h : sr ≠ -6) : mkb (mkb b sr u) sr v = mkb b sr (if u ≠ -6 then u else v) := by
  by_cases c1 : b.1 = -6
  · by_cases c2 : u = -6
    · rw [c2, mkb_n, if_neg (fun q => q rfl)]
    · rw [if_pos c2, mkb_t c1 c2, mkb_f h]
  · rw [mkb_f c1, mkb_f c1, mkb_f c1]
theorem mkb_i {b : Int × Int} {sr v : Int} (h1 : i32 b.1) (h2 : i32 sr) : i32 (mkb b sr v).1 := by
  unfold mkb
  split
  · exact h2
  · exact h1
theorem rpt_app {C : List Int} {p : Int} : ∀ m i, 1 ≤ i → i + m = C.length → rpt (C ++ [p]) (m + 1) i = if rpt C m i ≠ -6 then rpt C m i else if p = pg C (C.length - 1) then (C.length : Int) else -6 := by
  intro m
  induction m with
  | zero =>
    intro i h1 hi
    rw [if_neg (show ¬ rpt C 0 i ≠ -6 from fun q => q rfl)]
    show (if pg (C ++ [p]) i = pg (C ++ [p]) (i - 1) then (i : Int) else -6) = _
    rw [pg_app_r _ _ (by omega), pg_app_l _ _ (by omega), show i - C.length = 0 by omega, show i - 1 = C.length - 1 by omega, show (i : Int) = C.length by omega]
    rfl
  | succ m ih =>
    intro i h1 hi
    show (if pg (C ++ [p]) i = pg (C ++ [p]) (i - 1) then (i : Int) else rpt (C ++ [p]) (m + 1) (i + 1)) = _
    rw [pg_app_l _ _ (by omega), pg_app_l _ _ (by omega), ih (i + 1) (by omega) (by omega)]
    show _ = if (if pg C i = pg C (i - 1) then (i : Int) else rpt C m (i + 1)) ≠ -6 then (if pg C i = pg C (i - 1) then (i : Int) else rpt C m (i + 1)) else _
    by_cases c : pg C i = pg C (i - 1)
    · rw [if_pos c, if_pos c, if_pos (by omega)]
    · rw [if_neg c, if_neg c]
theorem rpt_add {C : List Int} {p : Int} : rpt (C ++ [p]) ((C ++ [p]).length - 1) 1 = if rpt C (C.length - 1) 1 ≠ -6 then rpt C (C.length - 1) 1 else if 0 < C.length ∧ p = pg C (C.length - 1) then (C.length : Int) else -6 := by
  have hl : (C ++ [p]).length - 1 = C.length := by simp
  rw [hl]
  by_cases e : C.length = 0
  · obtain rfl : C = [] := List.length_eq_zero_iff.mp e
    rfl
  · have h := rpt_app (C := C) (p := p) (C.length - 1) 1 (by omega) (by omega)
    rw [show C.length - 1 + 1 = C.length by omega] at h
    rw [h]
    by_cases c : rpt C (C.length - 1) 1 = -6
    · have cn : ¬ rpt C (C.length - 1) 1 ≠ -6 := fun q => q c
      rw [if_neg cn, if_neg cn]
      by_cases c2 : p = pg C (C.length - 1)
      · rw [if_pos c2, if_pos ⟨by omega, c2⟩]
      · rw [if_neg c2, if_neg (fun q => c2 q.2)]
    · rw [if_pos c, if_pos c]
theorem frb_app {As : List Stk} {S : Stk} : ∀ m i, i + m = As.length → frb (As ++ [S]) (m + 1) i = mkb (frb As m i) As.length (rep S) := by
  intro m
  induction m with
  | zero =>
    intro i hi
    show (if rep (sg (As ++ [S]) i) ≠ -6 then ((i : Int), rep (sg (As ++ [S]) i)) else (-6, -6)) = mkb (-6, -6) (As.length : Int) (rep S)
    rw [sg_app_r _ _ (by omega), show i - As.length = 0 by omega, show (As.length : Int) = i by omega]
    show (if rep S ≠ -6 then ((i : Int), rep S) else (-6, -6)) = _
    by_cases c : rep S = -6
    · rw [if_neg (fun q => q c), c, mkb_n]
    · rw [if_pos c, mkb_t rfl c]
  | succ m ih =>
    intro i hi
    show (if rep (sg (As ++ [S]) i) ≠ -6 then ((i : Int), rep (sg (As ++ [S]) i)) else frb (As ++ [S]) (m + 1) (i + 1)) = mkb (if rep (sg As i) ≠ -6 then ((i : Int), rep (sg As i)) else frb As m (i + 1)) _ _
    rw [sg_app_l _ _ (by omega), ih (i + 1) (by omega)]
    by_cases c : rep (sg As i) = -6
    · rw [if_neg (fun q => q c), if_neg (fun q => q c)]
    · rw [if_pos c, if_pos c, mkb_f (show (i : Int) ≠ -6 by omega)]
theorem frb_add {As : List Stk} {S : Stk} : frb (As ++ [S]) (As ++ [S]).length 0 = mkb (frb As As.length 0) As.length (rep S) := by
  rw [List.length_append]
  exact frb_app As.length 0 (by omega)
theorem mkb_rep {b : Int × Int} {sr : Int} {L : List Int} {z : Bool} (h : sr ≠ -6) : (if z = true ∧ pg L 0 = pg L (L.length - 1) then mkb (mkb b sr (rpt L (L.length - 1) 1)) sr 0 else mkb b sr (rpt L (L.length - 1) 1)) = mkb b sr (rep (L, z)) := by
  unfold rep
  dsimp only
  by_cases c : rpt L (L.length - 1) 1 = -6
  · rw [if_pos c]
    by_cases e : z = true ∧ pg L 0 = pg L (L.length - 1)
    · rw [if_pos e, if_pos e, mkb_2 h, if_neg (fun q => q c)]
    · rw [if_neg e, if_neg e, c]
  · rw [if_neg c]
    by_cases e : z = true ∧ pg L 0 = pg L (L.length - 1)
    · rw [if_pos e, mkb_2 h, if_pos c]
    · rw [if_neg e]
/-- behind a whole point that no '-' follows -/
theorem dfa_row {T : List Int} {k : Nat} {s p x n : Int} {As : List Stk} {C : List Int} {zb : Bool} (hk : k ≤ T.length) (hs : 5 ≤ s ∧ s ≤ 7) (hp : p = ((C ++ [1000 * x + n]).length : Int)) (h2 : 2 ≤ p) (hst : k = T.length ∨ (pg T k ≠ 45 ∧ (s < 7 → ¬ dgt (pg T k)))) (hz : zb = true ↔ 3 ≤ p ∧ k < T.length ∧ pg T k = 122) :
    (k + (if zb = true then 1 else 0) = T.length → dfa T (T.length - k) k s p = -6 ∧ prs T (T.length - k) k As C false x n = As ++ [(C ++ [1000 * x + n], zb)]) ∧ (k + (if zb = true then 1 else 0) < T.length → pg T (k + (if zb = true then 1 else 0)) = 59 → dfa T (T.length - k) k s p = dfa T (T.length - (k + (if zb = true then 1 else 0) + 1)) (k + (if zb = true then 1 else 0) + 1) 0 1 ∧ prs T (T.length - k) k As C false x n = prs T (T.length - (k + (if zb = true then 1 else 0) + 1)) (k + (if zb = true then 1 else 0) + 1) (As ++ [(C ++ [1000 * x + n], zb)]) [] false x 0) ∧
    (k + (if zb = true then 1 else 0) < T.length → pg T (k + (if zb = true then 1 else 0)) ≠ 59 → dfa T (T.length - k) k s p = ((k + (if zb = true then 1 else 0) : Nat) : Int)) := by
  cases zb with
  | true =>
    obtain ⟨z1, z2, z3⟩ := hz.mp rfl
    rw [if_pos rfl]
    have e1 : nst s (pg T k) p = 8 := by
      unfold nst
      rw [z3, if_neg (by omega), if_neg (by omega), if_neg (by omega), if_neg (by omega), if_neg (by omega), if_neg (by omega), if_pos ⟨rfl, z1⟩]
    have e2 : dfa T (T.length - k) k s p = dfa T (T.length - (k + 1)) (k + 1) 8 p := by
      rw [dfa_go z2 (by rw [e1]; omega), e1, npt_o (by omega) (by omega)]
    have e3 : prs T (T.length - k) k As C false x n = prs T (T.length - (k + 1)) (k + 1) As (C ++ [1000 * x + n]) true x 0 := by
      rw [prs_go z2, if_neg (by omega), if_neg (by omega), if_neg (by omega), if_neg (by decide), if_neg (by decide), z3]
      rfl
    rw [e2, e3]
    refine ⟨fun q => ?_, fun q q2 => ?_, fun q q2 => ?_⟩
    · rw [q, prs_end]
      refine ⟨?_, rfl⟩
      rw [Nat.sub_self]
      exact if_pos ⟨by omega, h2⟩
    · have e4 : nst 8 (pg T (k + 1)) p = 0 := by
        unfold nst
        rw [q2, if_neg (by omega), if_neg (by omega), if_neg (by omega), if_pos rfl, if_pos h2]
      have e5 : npt (pg T (k + 1)) p = 1 := by unfold npt; rw [q2, if_neg (by omega), if_pos rfl]
      rw [dfa_go q (by rw [e4]; omega), e4, e5, prs_go q, if_neg (by omega), if_neg (by omega), if_pos q2]
      exact ⟨rfl, rfl⟩
    · refine dfa_stop (by omega) (fun q3 => absurd q3 (by omega)) (fun _ => ?_)
      unfold nst
      by_cases c1 : 48 ≤ pg T (k + 1) ∧ pg T (k + 1) ≤ 57
      · rw [if_pos c1, if_pos (by omega)]
      · rw [if_neg c1]
        by_cases c2 : pg T (k + 1) = 44
        · rw [if_pos c2, if_neg (by omega)]
        · rw [if_neg c2, if_neg (by omega), if_neg q2, if_pos rfl]
  | false =>
    have z0 : ¬ (3 ≤ p ∧ k < T.length ∧ pg T k = 122) := fun q => absurd (hz.mpr q) (by decide)
    rw [if_neg (by decide), Nat.add_zero]
    refine ⟨fun q => ?_, fun q q2 => ?_, fun q q2 => ?_⟩
    · rw [q, prs_end]
      refine ⟨?_, rfl⟩
      rw [Nat.sub_self]
      exact if_pos ⟨by omega, h2⟩
    · have e4 : nst s (pg T k) p = 0 := by
        unfold nst
        rw [q2, if_neg (by omega), if_neg (by omega), if_neg (by omega), if_pos rfl, if_pos h2]
      have e5 : npt (pg T k) p = 1 := by unfold npt; rw [q2, if_neg (by omega), if_pos rfl]
      rw [dfa_go q (by rw [e4]; omega), e4, e5, prs_go q, if_neg (by omega), if_neg (by omega), if_pos q2]
      exact ⟨rfl, rfl⟩
    · refine dfa_stop (by omega) (fun q3 => absurd q3 (by omega)) (fun _ => ?_)
      have q4 : pg T k ≠ 45 ∧ (s < 7 → ¬ dgt (pg T k)) := hst.resolve_left (by omega)
      unfold nst
      by_cases c1 : 48 ≤ pg T k ∧ pg T k ≤ 57
      · have : ¬ s < 7 := fun q5 => q4.2 q5 c1
        rw [if_pos c1, if_pos (by omega)]
      · rw [if_neg c1]
        by_cases c2 : pg T k = 44
        · rw [if_pos c2, if_neg (by omega)]
        · rw [if_neg c2, if_neg (by omega), if_neg q2, if_neg (by omega), if_neg q4.1, if_neg (fun q5 => z0 ⟨q5.2, q, q5.1⟩)]
