/-! ===== heaps that differ in an interval of cells ===== -/
def chg (lo hi : Nat) (h h' : g_H) : Prop := h'.length = h.length ∧ ∀ b : Nat, b < lo ∨ hi ≤ b → h'[b]? = h[b]?
theorem chg.rf {lo hi : Nat} {h : g_H} : chg lo hi h h := ⟨rfl, fun _ _ => rfl⟩
theorem chg.tr {lo hi : Nat} {h h' h'' : g_H} (a : chg lo hi h h') (b : chg lo hi h' h'') : chg lo hi h h'' := ⟨b.1.trans a.1, fun q hq => (b.2 q hq).trans (a.2 q hq)⟩
theorem chg.wd {lo hi lo' hi' : Nat} {h h' : g_H} (a : chg lo hi h h') (h1 : lo' ≤ lo) (h2 : hi ≤ hi') : chg lo' hi' h h' := ⟨a.1, fun q hq => a.2 q (by omega)⟩
theorem chg.set {lo hi a : Nat} {h : g_H} (e : g_C) (ha : lo ≤ a ∧ a < hi) : chg lo hi h (h.set a e) := ⟨List.length_set, fun q hq => List.getElem?_set_ne (by omega)⟩
theorem chg.at {lo hi a : Nat} {h h' : g_H} (c : chg lo hi h h') (ha : a < lo ∨ hi ≤ a) : h'[a]? = h[a]? := c.2 a ha
/-! ===== a stroke's cells, and the stroke that they hold ===== -/
abbrev Stk : Type := List Int × Bool
def sz (z : Bool) : Int := if z = true then 1 else 0
theorem sz_bd (z : Bool) : sz z = 0 ∨ sz z = 1 := by cases z <;> simp [sz]
theorem sz_I (z : Bool) : I (sz z) = I 0 ∨ I (sz z) = I 1 := by cases z <;> simp [sz]
def pg (l : List Int) (i : Nat) : Int := l.getD i 0
def stk (h : g_H) (s : Nat) (n z : Int) (f : Nat → Int32) : Prop := h[s]? = some (.inr (.inr (2, [.ref (s + 1), .int (I n), .int (I z)]))) ∧ h[s + 1]? = some (.inl (0, 30, f))
def stX (h : g_H) (s : Nat) : Prop := ∃ (n z : Int) (f : Nat → Int32), stk h s n z f
def stL (h : g_H) (s : Nat) (S : Stk) : Prop := ∃ f : Nat → Int32, stk h s S.1.length (sz S.2) f ∧ S.1.length ≤ 30 ∧ ∀ i : Nat, i < S.1.length → f i = I (pg S.1 i)
theorem stk.kp {h h' : g_H} {s lo hi : Nat} {n z : Int} {f : Nat → Int32} (hs : stk h s n z f) (c : chg lo hi h h') (ho : s + 2 ≤ lo ∨ hi ≤ s) : stk h' s n z f := ⟨(c.at (by omega)).trans hs.1, (c.at (by omega)).trans hs.2⟩
theorem stL.kp {h h' : g_H} {s lo hi : Nat} {S : Stk} (hs : stL h s S) (c : chg lo hi h h') (ho : s + 2 ≤ lo ∨ hi ≤ s) : stL h' s S := by
  obtain ⟨f, h1, h2⟩ := hs
  exact ⟨f, h1.kp c ho, h2⟩
theorem stX.kp {h h' : g_H} {s lo hi : Nat} (hs : stX h s) (c : chg lo hi h h') (ho : s + 2 ≤ lo ∨ hi ≤ s) : stX h' s := by
  obtain ⟨n, z, f, h1⟩ := hs
  exact ⟨n, z, f, h1.kp c ho⟩
theorem stL.x {h : g_H} {s : Nat} {S : Stk} (hs : stL h s S) : stX h s := by
  obtain ⟨f, h1, h2⟩ := hs
  exact ⟨_, _, f, h1⟩
theorem stL.len {h : g_H} {s : Nat} {S : Stk} (hs : stL h s S) : S.1.length ≤ 30 := by
  obtain ⟨f, h1, h2, h3⟩ := hs
  exact h2
theorem pg_set (l : List Int) (j : Nat) (p : Int) (hj : j < l.length) (i : Nat) : pg (l.set j p) i = if i = j then p else pg l i := by
  unfold pg
  by_cases h : i = j
  · subst h; simp [List.getD_eq_getElem?_getD, hj]
  · rw [if_neg h, List.getD_eq_getElem?_getD, List.getD_eq_getElem?_getD, List.getElem?_set_ne (fun q => h q.symm)]
theorem pg_app_l (l r : List Int) {i : Nat} (h : i < l.length) : pg (l ++ r) i = pg l i := by
  unfold pg
  rw [List.getD_eq_getElem?_getD, List.getD_eq_getElem?_getD, List.getElem?_append_left h]
theorem pg_app_r (l r : List Int) {i : Nat} (h : l.length ≤ i) : pg (l ++ r) i = pg r (i - l.length) := by
  unfold pg
  rw [List.getD_eq_getElem?_getD, List.getD_eq_getElem?_getD, List.getElem?_append_right h]
theorem pg_take (l : List Int) {i m : Nat} (h : i < m) : pg (l.take m) i = pg l i := by
  unfold pg
  rw [List.getD_eq_getElem?_getD, List.getD_eq_getElem?_getD, List.getElem?_take_of_lt h]
theorem pg_drop (l : List Int) (i m : Nat) : pg (l.drop m) i = pg l (m + i) := by
  unfold pg
  rw [List.getD_eq_getElem?_getD, List.getD_eq_getElem?_getD, List.getElem?_drop]
theorem pg_rev (l : List Int) {i : Nat} (h : i < l.length) : pg l.reverse i = pg l (l.length - 1 - i) := by
  unfold pg
  rw [List.getD_eq_getElem?_getD, List.getD_eq_getElem?_getD, List.getElem?_reverse h]
theorem pg_ext {l r : List Int} (hl : l.length = r.length) (h : ∀ i, i < l.length → pg l i = pg r i) : l = r := by
  apply List.ext_getElem hl
  intro i h1 h2
  have := h i h1
  unfold pg at this
  simpa [List.getD_eq_getElem?_getD, h1, h2] using this
theorem pg_map (l : List Int) (f : Int → Int) {i : Nat} (h : i < l.length) : pg (l.map f) i = f (pg l i) := by
  unfold pg
  simp [List.getD_eq_getElem?_getD, h]
theorem pg_mem {l : List Int} {i : Nat} (h : i < l.length) : pg l i ∈ l := by
  unfold pg
  rw [List.getD_eq_getElem?_getD, List.getElem?_eq_getElem h]
  exact List.getElem_mem h
/-! blocks of Stroke_init -/
theorem ml_Stroke_init : (g_m Stroke_init).2.2.1 = 1 := rfl
theorem rt_Stroke_init : (g_m Stroke_init).2.2.2.1 = none := rfl
theorem B_Stroke_init_0 {d mc ms cs ss : Nat} {L : List (Option Value)} {st : List Value} {h : g_H} {Q : g_Po} (hw : g_wp Stroke_init d mc ms Q 13 [(0, 1, 0, 0, 0, 0, .aload_n 0), (1, 3, 9999, 0, 1033, 0, .invokespecial 3), (4, 1, 0, 0, 0, 0, .aload_n 0), (5, 2, 0, 0, 0, 30, .bipush 30), (7, 2, 0, 30, 1054, 0, .newarray .int), (9, 3, 2, 0, 1034, 12, .putfield 9), (12, 1, 0, 0, 0, 0, .return_)] cs ss L st h) : G Stroke_init d mc ms cs ss 0 L st h Q := G.run (by decide +kernel) hw
/-! blocks of Stroke_at -/
theorem ml_Stroke_at : (g_m Stroke_at).2.2.1 = 2 := rfl
theorem rt_Stroke_at : (g_m Stroke_at).2.2.2.1 = (some .int) := rfl
theorem B_Stroke_at_0 {d mc ms cs ss : Nat} {L : List (Option Value)} {st : List Value} {h : g_H} {Q : g_Po} (hw : g_wp Stroke_at d mc ms Q 4 [(0, 1, 0, 0, 0, 0, .iload_n 1), (1, 3, 22, 0, 0, 0, .ifCond .lt 21)] cs ss L st h) : G Stroke_at d mc ms cs ss 0 L st h Q := G.run (by decide +kernel) hw
theorem B_Stroke_at_4 {d mc ms cs ss : Nat} {L : List (Option Value)} {st : List Value} {h : g_H} {Q : g_Po} (hw : g_wp Stroke_at d mc ms Q 13 [(4, 1, 0, 0, 0, 0, .iload_n 1), (5, 1, 0, 0, 0, 0, .aload_n 0), (6, 3, 2, 0, 1034, 2, .getfield 9), (9, 1, 0, 0, 0, 0, .arraylength), (10, 3, 22, 0, 0, 0, .if_icmp .ge 12)] cs ss L st h) : G Stroke_at d mc ms cs ss 4 L st h Q := G.run (by decide +kernel) hw
theorem B_Stroke_at_13 {d mc ms cs ss : Nat} {L : List (Option Value)} {st : List Value} {h : g_H} {Q : g_Po} (hw : g_wp Stroke_at d mc ms Q 22 [(13, 1, 0, 0, 0, 0, .aload_n 0), (14, 3, 2, 0, 1034, 2, .getfield 9), (17, 1, 0, 0, 0, 0, .iload_n 1), (18, 1, 0, 0, 0, 0, .iaload), (19, 3, 23, 0, 0, 0, .goto 4)] cs ss L st h) : G Stroke_at d mc ms cs ss 13 L st h Q := G.run (by decide +kernel) hw
theorem B_Stroke_at_22 {d mc ms cs ss : Nat} {L : List (Option Value)} {st : List Value} {h : g_H} {Q : g_Po} (hw : g_wp Stroke_at d mc ms Q 23 [(22, 1, 0, 0, 0, 0, .iconst 0)] cs ss L st h) : G Stroke_at d mc ms cs ss 22 L st h Q := G.run (by decide +kernel) hw
theorem B_Stroke_at_23 {d mc ms cs ss : Nat} {L : List (Option Value)} {st : List Value} {h : g_H} {Q : g_Po} (hw : g_wp Stroke_at d mc ms Q 24 [(23, 1, 0, 0, 0, 0, .ireturn)] cs ss L st h) : G Stroke_at d mc ms cs ss 23 L st h Q := G.run (by decide +kernel) hw
/-! blocks of Stroke_put -/
theorem ml_Stroke_put : (g_m Stroke_put).2.2.1 = 3 := rfl
theorem rt_Stroke_put : (g_m Stroke_put).2.2.2.1 = none := rfl
theorem B_Stroke_put_0 {d mc ms cs ss : Nat} {L : List (Option Value)} {st : List Value} {h : g_H} {Q : g_Po} (hw : g_wp Stroke_put d mc ms Q 4 [(0, 1, 0, 0, 0, 0, .iload_n 1), (1, 3, 20, 0, 0, 0, .ifCond .lt 19)] cs ss L st h) : G Stroke_put d mc ms cs ss 0 L st h Q := G.run (by decide +kernel) hw
theorem B_Stroke_put_4 {d mc ms cs ss : Nat} {L : List (Option Value)} {st : List Value} {h : g_H} {Q : g_Po} (hw : g_wp Stroke_put d mc ms Q 13 [(4, 1, 0, 0, 0, 0, .iload_n 1), (5, 1, 0, 0, 0, 0, .aload_n 0), (6, 3, 2, 0, 1034, 2, .getfield 9), (9, 1, 0, 0, 0, 0, .arraylength), (10, 3, 20, 0, 0, 0, .if_icmp .ge 10)] cs ss L st h) : G Stroke_put d mc ms cs ss 4 L st h Q := G.run (by decide +kernel) hw
theorem B_Stroke_put_13 {d mc ms cs ss : Nat} {L : List (Option Value)} {st : List Value} {h : g_H} {Q : g_Po} (hw : g_wp Stroke_put d mc ms Q 20 [(13, 1, 0, 0, 0, 0, .aload_n 0), (14, 3, 2, 0, 1034, 2, .getfield 9), (17, 1, 0, 0, 0, 0, .iload_n 1), (18, 1, 0, 0, 0, 0, .iload_n 2), (19, 1, 0, 0, 0, 0, .iastore)] cs ss L st h) : G Stroke_put d mc ms cs ss 13 L st h Q := G.run (by decide +kernel) hw
theorem B_Stroke_put_20 {d mc ms cs ss : Nat} {L : List (Option Value)} {st : List Value} {h : g_H} {Q : g_Po} (hw : g_wp Stroke_put d mc ms Q 21 [(20, 1, 0, 0, 0, 0, .return_)] cs ss L st h) : G Stroke_put d mc ms cs ss 20 L st h Q := G.run (by decide +kernel) hw
/-! blocks of Stroke_add -/
theorem ml_Stroke_add : (g_m Stroke_add).2.2.1 = 2 := rfl
theorem rt_Stroke_add : (g_m Stroke_add).2.2.2.1 = none := rfl
theorem B_Stroke_add_0 {d mc ms cs ss : Nat} {L : List (Option Value)} {st : List Value} {h : g_H} {Q : g_Po} (hw : g_wp Stroke_add d mc ms Q 7 [(0, 1, 0, 0, 0, 0, .aload_n 0), (1, 3, 2, 1, 1039, 0, .getfield 15), (4, 3, 39, 0, 0, 0, .ifCond .lt 35)] cs ss L st h) : G Stroke_add d mc ms cs ss 0 L st h Q := G.run (by decide +kernel) hw
theorem B_Stroke_add_7 {d mc ms cs ss : Nat} {L : List (Option Value)} {st : List Value} {h : g_H} {Q : g_Po} (hw : g_wp Stroke_add d mc ms Q 19 [(7, 1, 0, 0, 0, 0, .aload_n 0), (8, 3, 2, 1, 1039, 0, .getfield 15), (11, 1, 0, 0, 0, 0, .aload_n 0), (12, 3, 2, 0, 1034, 2, .getfield 9), (15, 1, 0, 0, 0, 0, .arraylength), (16, 3, 39, 0, 0, 0, .if_icmp .ge 23)] cs ss L st h) : G Stroke_add d mc ms cs ss 7 L st h Q := G.run (by decide +kernel) hw
theorem B_Stroke_add_19 {d mc ms cs ss : Nat} {L : List (Option Value)} {st : List Value} {h : g_H} {Q : g_Po} (hw : g_wp Stroke_add d mc ms Q 39 [(19, 1, 0, 0, 0, 0, .aload_n 0), (20, 3, 2, 0, 1034, 2, .getfield 9), (23, 1, 0, 0, 0, 0, .aload_n 0), (24, 3, 2, 1, 1039, 0, .getfield 15), (27, 1, 0, 0, 0, 0, .iload_n 1), (28, 1, 0, 0, 0, 0, .iastore), (29, 1, 0, 0, 0, 0, .aload_n 0), (30, 1, 0, 0, 0, 0, .dup), (31, 3, 2, 1, 1039, 0, .getfield 15), (34, 1, 0, 0, 0, 1, .iconst 1), (35, 1, 0, 0, 0, 0, .iadd), (36, 3, 2, 1, 1039, 0, .putfield 15)] cs ss L st h) : G Stroke_add d mc ms cs ss 19 L st h Q := G.run (by decide +kernel) hw
theorem B_Stroke_add_39 {d mc ms cs ss : Nat} {L : List (Option Value)} {st : List Value} {h : g_H} {Q : g_Po} (hw : g_wp Stroke_add d mc ms Q 40 [(39, 1, 0, 0, 0, 0, .return_)] cs ss L st h) : G Stroke_add d mc ms cs ss 39 L st h Q := G.run (by decide +kernel) hw
/-! blocks of Stroke_empty -/
theorem ml_Stroke_empty : (g_m Stroke_empty).2.2.1 = 1 := rfl
theorem rt_Stroke_empty : (g_m Stroke_empty).2.2.2.1 = none := rfl
theorem B_Stroke_empty_0 {d mc ms cs ss : Nat} {L : List (Option Value)} {st : List Value} {h : g_H} {Q : g_Po} (hw : g_wp Stroke_empty d mc ms Q 11 [(0, 1, 0, 0, 0, 0, .aload_n 0), (1, 1, 0, 0, 0, 0, .iconst 0), (2, 3, 2, 1, 1039, 0, .putfield 15), (5, 1, 0, 0, 0, 0, .aload_n 0), (6, 1, 0, 0, 0, 0, .iconst 0), (7, 3, 2, 2, 1045, 1, .putfield 19), (10, 1, 0, 0, 0, 0, .return_)] cs ss L st h) : G Stroke_empty d mc ms cs ss 0 L st h Q := G.run (by decide +kernel) hw
/-! blocks of Stroke_shorten -/
theorem ml_Stroke_shorten : (g_m Stroke_shorten).2.2.1 = 2 := rfl
theorem rt_Stroke_shorten : (g_m Stroke_shorten).2.2.2.1 = none := rfl
theorem B_Stroke_shorten_0 {d mc ms cs ss : Nat} {L : List (Option Value)} {st : List Value} {h : g_H} {Q : g_Po} (hw : g_wp Stroke_shorten d mc ms Q 17 [(0, 1, 0, 0, 0, 0, .aload_n 0), (1, 1, 0, 0, 0, 0, .aload_n 0), (2, 3, 2, 1, 1039, 0, .getfield 15), (5, 1, 0, 0, 0, 0, .iload_n 1), (6, 1, 0, 0, 0, 0, .iconst 0), (7, 3, 9993, 0, 2024, 2, .invokestatic 23), (10, 3, 9994, 0, 2027, 2, .invokestatic 29), (13, 3, 2, 1, 1039, 0, .putfield 15), (16, 1, 0, 0, 0, 0, .return_)] cs ss L st h) : G Stroke_shorten d mc ms cs ss 0 L st h Q := G.run (by decide +kernel) hw
/-! blocks of Stroke_copyFrom -/
theorem ml_Stroke_copyFrom : (g_m Stroke_copyFrom).2.2.1 = 3 := rfl
theorem rt_Stroke_copyFrom : (g_m Stroke_copyFrom).2.2.2.1 = none := rfl
theorem B_Stroke_copyFrom_0 {d mc ms cs ss : Nat} {L : List (Option Value)} {st : List Value} {h : g_H} {Q : g_Po} (hw : g_wp Stroke_copyFrom d mc ms Q 18 [(0, 1, 0, 0, 0, 0, .aload_n 0), (1, 1, 0, 0, 0, 0, .aload_n 1), (2, 3, 2, 1, 1039, 0, .getfield 15), (5, 3, 2, 1, 1039, 0, .putfield 15), (8, 1, 0, 0, 0, 0, .aload_n 0), (9, 1, 0, 0, 0, 0, .aload_n 1), (10, 3, 2, 2, 1045, 1, .getfield 19), (13, 3, 2, 2, 1045, 1, .putfield 19), (16, 1, 0, 0, 0, 0, .iconst 0), (17, 1, 0, 0, 0, 0, .istore_n 2)] cs ss L st h) : G Stroke_copyFrom d mc ms cs ss 0 L st h Q := G.run (by decide +kernel) hw
theorem B_Stroke_copyFrom_18 {d mc ms cs ss : Nat} {L : List (Option Value)} {st : List Value} {h : g_H} {Q : g_Po} (hw : g_wp Stroke_copyFrom d mc ms Q 26 [(18, 1, 0, 0, 0, 0, .iload_n 2), (19, 1, 0, 0, 0, 0, .aload_n 0), (20, 3, 2, 1, 1039, 0, .getfield 15), (23, 3, 42, 0, 0, 0, .if_icmp .ge 19)] cs ss L st h) : G Stroke_copyFrom d mc ms cs ss 18 L st h Q := G.run (by decide +kernel) hw
theorem B_Stroke_copyFrom_26 {d mc ms cs ss : Nat} {L : List (Option Value)} {st : List Value} {h : g_H} {Q : g_Po} (hw : g_wp Stroke_copyFrom d mc ms Q 33 [(26, 1, 0, 0, 0, 0, .aload_n 0), (27, 1, 0, 0, 0, 0, .iload_n 2), (28, 1, 0, 0, 0, 0, .aload_n 1), (29, 1, 0, 0, 0, 0, .iload_n 2), (30, 3, 33, 2, 1199, 1, .invokevirtual 32)] cs ss L st h) : G Stroke_copyFrom d mc ms cs ss 26 L st h Q := G.run (by decide +kernel) hw
theorem B_Stroke_copyFrom_33 {d mc ms cs ss : Nat} {L : List (Option Value)} {st : List Value} {h : g_H} {Q : g_Po} (hw : g_wp Stroke_copyFrom d mc ms Q 36 [(33, 3, 34, 2, 1203, 2, .invokevirtual 36)] cs ss L st h) : G Stroke_copyFrom d mc ms cs ss 33 L st h Q := G.run (by decide +kernel) hw
theorem B_Stroke_copyFrom_36 {d mc ms cs ss : Nat} {L : List (Option Value)} {st : List Value} {h : g_H} {Q : g_Po} (hw : g_wp Stroke_copyFrom d mc ms Q 42 [(36, 3, 0, 0, 0, 1, .iinc 2 1), (39, 3, 18, 0, 0, 0, .goto (-21))] cs ss L st h) : G Stroke_copyFrom d mc ms cs ss 36 L st h Q := G.run (by decide +kernel) hw
theorem B_Stroke_copyFrom_42 {d mc ms cs ss : Nat} {L : List (Option Value)} {st : List Value} {h : g_H} {Q : g_Po} (hw : g_wp Stroke_copyFrom d mc ms Q 43 [(42, 1, 0, 0, 0, 0, .return_)] cs ss L st h) : G Stroke_copyFrom d mc ms cs ss 42 L st h Q := G.run (by decide +kernel) hw
/-! blocks of Stroke_firstPoint -/
theorem ml_Stroke_firstPoint : (g_m Stroke_firstPoint).2.2.1 = 1 := rfl
theorem rt_Stroke_firstPoint : (g_m Stroke_firstPoint).2.2.2.1 = (some .int) := rfl
theorem B_Stroke_firstPoint_0 {d mc ms cs ss : Nat} {L : List (Option Value)} {st : List Value} {h : g_H} {Q : g_Po} (hw : g_wp Stroke_firstPoint d mc ms Q 5 [(0, 1, 0, 0, 0, 0, .aload_n 0), (1, 1, 0, 0, 0, 0, .iconst 0), (2, 3, 33, 2, 1199, 1, .invokevirtual 32)] cs ss L st h) : G Stroke_firstPoint d mc ms cs ss 0 L st h Q := G.run (by decide +kernel) hw
theorem B_Stroke_firstPoint_5 {d mc ms cs ss : Nat} {L : List (Option Value)} {st : List Value} {h : g_H} {Q : g_Po} (hw : g_wp Stroke_firstPoint d mc ms Q 6 [(5, 1, 0, 0, 0, 0, .ireturn)] cs ss L st h) : G Stroke_firstPoint d mc ms cs ss 5 L st h Q := G.run (by decide +kernel) hw
/-! blocks of Stroke_lastPoint -/
theorem ml_Stroke_lastPoint : (g_m Stroke_lastPoint).2.2.1 = 1 := rfl
theorem rt_Stroke_lastPoint : (g_m Stroke_lastPoint).2.2.2.1 = (some .int) := rfl
theorem B_Stroke_lastPoint_0 {d mc ms cs ss : Nat} {L : List (Option Value)} {st : List Value} {h : g_H} {Q : g_Po} (hw : g_wp Stroke_lastPoint d mc ms Q 10 [(0, 1, 0, 0, 0, 0, .aload_n 0), (1, 1, 0, 0, 0, 0, .aload_n 0), (2, 3, 2, 1, 1039, 0, .getfield 15), (5, 1, 0, 0, 0, 1, .iconst 1), (6, 1, 0, 0, 0, 0, .isub), (7, 3, 33, 2, 1199, 1, .invokevirtual 32)] cs ss L st h) : G Stroke_lastPoint d mc ms cs ss 0 L st h Q := G.run (by decide +kernel) hw
theorem B_Stroke_lastPoint_10 {d mc ms cs ss : Nat} {L : List (Option Value)} {st : List Value} {h : g_H} {Q : g_Po} (hw : g_wp Stroke_lastPoint d mc ms Q 11 [(10, 1, 0, 0, 0, 0, .ireturn)] cs ss L st h) : G Stroke_lastPoint d mc ms cs ss 10 L st h Q := G.run (by decide +kernel) hw
/-! blocks of Stroke_around -/
theorem ml_Stroke_around : (g_m Stroke_around).2.2.1 = 2 := rfl
theorem rt_Stroke_around : (g_m Stroke_around).2.2.2.1 = (some .int) := rfl
theorem B_Stroke_around_0 {d mc ms cs ss : Nat} {L : List (Option Value)} {st : List Value} {h : g_H} {Q : g_Po} (hw : g_wp Stroke_around d mc ms Q 9 [(0, 1, 0, 0, 0, 0, .aload_n 0), (1, 1, 0, 0, 0, 0, .iload_n 1), (2, 1, 0, 0, 0, 0, .aload_n 0), (3, 3, 2, 1, 1039, 0, .getfield 15), (6, 3, 13, 0, 0, 0, .if_icmp .ge 7)] cs ss L st h) : G Stroke_around d mc ms cs ss 0 L st h Q := G.run (by decide +kernel) hw
theorem B_Stroke_around_9 {d mc ms cs ss : Nat} {L : List (Option Value)} {st : List Value} {h : g_H} {Q : g_Po} (hw : g_wp Stroke_around d mc ms Q 13 [(9, 1, 0, 0, 0, 0, .iload_n 1), (10, 3, 14, 0, 0, 0, .goto 4)] cs ss L st h) : G Stroke_around d mc ms cs ss 9 L st h Q := G.run (by decide +kernel) hw
theorem B_Stroke_around_13 {d mc ms cs ss : Nat} {L : List (Option Value)} {st : List Value} {h : g_H} {Q : g_Po} (hw : g_wp Stroke_around d mc ms Q 14 [(13, 1, 0, 0, 0, 0, .iconst 0)] cs ss L st h) : G Stroke_around d mc ms cs ss 13 L st h Q := G.run (by decide +kernel) hw
theorem B_Stroke_around_14 {d mc ms cs ss : Nat} {L : List (Option Value)} {st : List Value} {h : g_H} {Q : g_Po} (hw : g_wp Stroke_around d mc ms Q 17 [(14, 3, 33, 2, 1199, 1, .invokevirtual 32)] cs ss L st h) : G Stroke_around d mc ms cs ss 14 L st h Q := G.run (by decide +kernel) hw
theorem B_Stroke_around_17 {d mc ms cs ss : Nat} {L : List (Option Value)} {st : List Value} {h : g_H} {Q : g_Po} (hw : g_wp Stroke_around d mc ms Q 18 [(17, 1, 0, 0, 0, 0, .ireturn)] cs ss L st h) : G Stroke_around d mc ms cs ss 17 L st h Q := G.run (by decide +kernel) hw
/-! blocks of Stroke_pieceCount -/
theorem ml_Stroke_pieceCount : (g_m Stroke_pieceCount).2.2.1 = 1 := rfl
theorem rt_Stroke_pieceCount : (g_m Stroke_pieceCount).2.2.2.1 = (some .int) := rfl
theorem B_Stroke_pieceCount_0 {d mc ms cs ss : Nat} {L : List (Option Value)} {st : List Value} {h : g_H} {Q : g_Po} (hw : g_wp Stroke_pieceCount d mc ms Q 7 [(0, 1, 0, 0, 0, 0, .aload_n 0), (1, 3, 2, 2, 1045, 1, .getfield 19), (4, 3, 14, 0, 0, 0, .ifCond .eq 10)] cs ss L st h) : G Stroke_pieceCount d mc ms cs ss 0 L st h Q := G.run (by decide +kernel) hw
theorem B_Stroke_pieceCount_7 {d mc ms cs ss : Nat} {L : List (Option Value)} {st : List Value} {h : g_H} {Q : g_Po} (hw : g_wp Stroke_pieceCount d mc ms Q 14 [(7, 1, 0, 0, 0, 0, .aload_n 0), (8, 3, 2, 1, 1039, 0, .getfield 15), (11, 3, 20, 0, 0, 0, .goto 9)] cs ss L st h) : G Stroke_pieceCount d mc ms cs ss 7 L st h Q := G.run (by decide +kernel) hw
theorem B_Stroke_pieceCount_14 {d mc ms cs ss : Nat} {L : List (Option Value)} {st : List Value} {h : g_H} {Q : g_Po} (hw : g_wp Stroke_pieceCount d mc ms Q 20 [(14, 1, 0, 0, 0, 0, .aload_n 0), (15, 3, 2, 1, 1039, 0, .getfield 15), (18, 1, 0, 0, 0, 1, .iconst 1), (19, 1, 0, 0, 0, 0, .isub)] cs ss L st h) : G Stroke_pieceCount d mc ms cs ss 14 L st h Q := G.run (by decide +kernel) hw
theorem B_Stroke_pieceCount_20 {d mc ms cs ss : Nat} {L : List (Option Value)} {st : List Value} {h : g_H} {Q : g_Po} (hw : g_wp Stroke_pieceCount d mc ms Q 21 [(20, 1, 0, 0, 0, 0, .ireturn)] cs ss L st h) : G Stroke_pieceCount d mc ms cs ss 20 L st h Q := G.run (by decide +kernel) hw
/-! blocks of Stroke_turnRound -/
theorem ml_Stroke_turnRound : (g_m Stroke_turnRound).2.2.1 = 4 := rfl
theorem rt_Stroke_turnRound : (g_m Stroke_turnRound).2.2.2.1 = none := rfl
theorem B_Stroke_turnRound_0 {d mc ms cs ss : Nat} {L : List (Option Value)} {st : List Value} {h : g_H} {Q : g_Po} (hw : g_wp Stroke_turnRound d mc ms Q 9 [(0, 1, 0, 0, 0, 0, .iconst 0), (1, 1, 0, 0, 0, 0, .istore_n 1), (2, 1, 0, 0, 0, 0, .aload_n 0), (3, 3, 2, 1, 1039, 0, .getfield 15), (6, 1, 0, 0, 0, 1, .iconst 1), (7, 1, 0, 0, 0, 0, .isub), (8, 1, 0, 0, 0, 0, .istore_n 2)] cs ss L st h) : G Stroke_turnRound d mc ms cs ss 0 L st h Q := G.run (by decide +kernel) hw
theorem B_Stroke_turnRound_9 {d mc ms cs ss : Nat} {L : List (Option Value)} {st : List Value} {h : g_H} {Q : g_Po} (hw : g_wp Stroke_turnRound d mc ms Q 14 [(9, 1, 0, 0, 0, 0, .iload_n 1), (10, 1, 0, 0, 0, 0, .iload_n 2), (11, 3, 45, 0, 0, 0, .if_icmp .ge 34)] cs ss L st h) : G Stroke_turnRound d mc ms cs ss 9 L st h Q := G.run (by decide +kernel) hw
theorem B_Stroke_turnRound_14 {d mc ms cs ss : Nat} {L : List (Option Value)} {st : List Value} {h : g_H} {Q : g_Po} (hw : g_wp Stroke_turnRound d mc ms Q 19 [(14, 1, 0, 0, 0, 0, .aload_n 0), (15, 1, 0, 0, 0, 0, .iload_n 1), (16, 3, 33, 2, 1199, 1, .invokevirtual 32)] cs ss L st h) : G Stroke_turnRound d mc ms cs ss 14 L st h Q := G.run (by decide +kernel) hw
theorem B_Stroke_turnRound_19 {d mc ms cs ss : Nat} {L : List (Option Value)} {st : List Value} {h : g_H} {Q : g_Po} (hw : g_wp Stroke_turnRound d mc ms Q 27 [(19, 1, 0, 0, 0, 0, .istore_n 3), (20, 1, 0, 0, 0, 0, .aload_n 0), (21, 1, 0, 0, 0, 0, .iload_n 1), (22, 1, 0, 0, 0, 0, .aload_n 0), (23, 1, 0, 0, 0, 0, .iload_n 2), (24, 3, 33, 2, 1199, 1, .invokevirtual 32)] cs ss L st h) : G Stroke_turnRound d mc ms cs ss 19 L st h Q := G.run (by decide +kernel) hw
theorem B_Stroke_turnRound_27 {d mc ms cs ss : Nat} {L : List (Option Value)} {st : List Value} {h : g_H} {Q : g_Po} (hw : g_wp Stroke_turnRound d mc ms Q 30 [(27, 3, 34, 2, 1203, 2, .invokevirtual 36)] cs ss L st h) : G Stroke_turnRound d mc ms cs ss 27 L st h Q := G.run (by decide +kernel) hw
theorem B_Stroke_turnRound_30 {d mc ms cs ss : Nat} {L : List (Option Value)} {st : List Value} {h : g_H} {Q : g_Po} (hw : g_wp Stroke_turnRound d mc ms Q 36 [(30, 1, 0, 0, 0, 0, .aload_n 0), (31, 1, 0, 0, 0, 0, .iload_n 2), (32, 1, 0, 0, 0, 0, .iload_n 3), (33, 3, 34, 2, 1203, 2, .invokevirtual 36)] cs ss L st h) : G Stroke_turnRound d mc ms cs ss 30 L st h Q := G.run (by decide +kernel) hw
theorem B_Stroke_turnRound_36 {d mc ms cs ss : Nat} {L : List (Option Value)} {st : List Value} {h : g_H} {Q : g_Po} (hw : g_wp Stroke_turnRound d mc ms Q 45 [(36, 3, 0, 0, 0, 1, .iinc 1 1), (39, 3, 0, 0, 0, (-1), .iinc 2 (-1)), (42, 3, 9, 0, 0, 0, .goto (-33))] cs ss L st h) : G Stroke_turnRound d mc ms cs ss 36 L st h Q := G.run (by decide +kernel) hw
theorem B_Stroke_turnRound_45 {d mc ms cs ss : Nat} {L : List (Option Value)} {st : List Value} {h : g_H} {Q : g_Po} (hw : g_wp Stroke_turnRound d mc ms Q 46 [(45, 1, 0, 0, 0, 0, .return_)] cs ss L st h) : G Stroke_turnRound d mc ms cs ss 45 L st h Q := G.run (by decide +kernel) hw
/-! blocks of Stroke_repeatedPoint -/
theorem ml_Stroke_repeatedPoint : (g_m Stroke_repeatedPoint).2.2.1 = 2 := rfl
theorem rt_Stroke_repeatedPoint : (g_m Stroke_repeatedPoint).2.2.2.1 = (some .int) := rfl
theorem B_Stroke_repeatedPoint_0 {d mc ms cs ss : Nat} {L : List (Option Value)} {st : List Value} {h : g_H} {Q : g_Po} (hw : g_wp Stroke_repeatedPoint d mc ms Q 2 [(0, 1, 0, 0, 0, 1, .iconst 1), (1, 1, 0, 0, 0, 0, .istore_n 1)] cs ss L st h) : G Stroke_repeatedPoint d mc ms cs ss 0 L st h Q := G.run (by decide +kernel) hw
theorem B_Stroke_repeatedPoint_2 {d mc ms cs ss : Nat} {L : List (Option Value)} {st : List Value} {h : g_H} {Q : g_Po} (hw : g_wp Stroke_repeatedPoint d mc ms Q 10 [(2, 1, 0, 0, 0, 0, .iload_n 1), (3, 1, 0, 0, 0, 0, .aload_n 0), (4, 3, 2, 1, 1039, 0, .getfield 15), (7, 3, 33, 0, 0, 0, .if_icmp .ge 26)] cs ss L st h) : G Stroke_repeatedPoint d mc ms cs ss 2 L st h Q := G.run (by decide +kernel) hw
theorem B_Stroke_repeatedPoint_10 {d mc ms cs ss : Nat} {L : List (Option Value)} {st : List Value} {h : g_H} {Q : g_Po} (hw : g_wp Stroke_repeatedPoint d mc ms Q 15 [(10, 1, 0, 0, 0, 0, .aload_n 0), (11, 1, 0, 0, 0, 0, .iload_n 1), (12, 3, 33, 2, 1199, 1, .invokevirtual 32)] cs ss L st h) : G Stroke_repeatedPoint d mc ms cs ss 10 L st h Q := G.run (by decide +kernel) hw
theorem B_Stroke_repeatedPoint_15 {d mc ms cs ss : Nat} {L : List (Option Value)} {st : List Value} {h : g_H} {Q : g_Po} (hw : g_wp Stroke_repeatedPoint d mc ms Q 22 [(15, 1, 0, 0, 0, 0, .aload_n 0), (16, 1, 0, 0, 0, 0, .iload_n 1), (17, 1, 0, 0, 0, 1, .iconst 1), (18, 1, 0, 0, 0, 0, .isub), (19, 3, 33, 2, 1199, 1, .invokevirtual 32)] cs ss L st h) : G Stroke_repeatedPoint d mc ms cs ss 15 L st h Q := G.run (by decide +kernel) hw
theorem B_Stroke_repeatedPoint_22 {d mc ms cs ss : Nat} {L : List (Option Value)} {st : List Value} {h : g_H} {Q : g_Po} (hw : g_wp Stroke_repeatedPoint d mc ms Q 25 [(22, 3, 27, 0, 0, 0, .if_icmp .ne 5)] cs ss L st h) : G Stroke_repeatedPoint d mc ms cs ss 22 L st h Q := G.run (by decide +kernel) hw
theorem B_Stroke_repeatedPoint_25 {d mc ms cs ss : Nat} {L : List (Option Value)} {st : List Value} {h : g_H} {Q : g_Po} (hw : g_wp Stroke_repeatedPoint d mc ms Q 27 [(25, 1, 0, 0, 0, 0, .iload_n 1), (26, 1, 0, 0, 0, 0, .ireturn)] cs ss L st h) : G Stroke_repeatedPoint d mc ms cs ss 25 L st h Q := G.run (by decide +kernel) hw
theorem B_Stroke_repeatedPoint_27 {d mc ms cs ss : Nat} {L : List (Option Value)} {st : List Value} {h : g_H} {Q : g_Po} (hw : g_wp Stroke_repeatedPoint d mc ms Q 33 [(27, 3, 0, 0, 0, 1, .iinc 1 1), (30, 3, 2, 0, 0, 0, .goto (-28))] cs ss L st h) : G Stroke_repeatedPoint d mc ms cs ss 27 L st h Q := G.run (by decide +kernel) hw
theorem B_Stroke_repeatedPoint_33 {d mc ms cs ss : Nat} {L : List (Option Value)} {st : List Value} {h : g_H} {Q : g_Po} (hw : g_wp Stroke_repeatedPoint d mc ms Q 40 [(33, 1, 0, 0, 0, 0, .aload_n 0), (34, 3, 2, 2, 1045, 1, .getfield 19), (37, 3, 55, 0, 0, 0, .ifCond .eq 18)] cs ss L st h) : G Stroke_repeatedPoint d mc ms cs ss 33 L st h Q := G.run (by decide +kernel) hw
theorem B_Stroke_repeatedPoint_40 {d mc ms cs ss : Nat} {L : List (Option Value)} {st : List Value} {h : g_H} {Q : g_Po} (hw : g_wp Stroke_repeatedPoint d mc ms Q 44 [(40, 1, 0, 0, 0, 0, .aload_n 0), (41, 3, 39, 2, 2238, 0, .invokevirtual 40)] cs ss L st h) : G Stroke_repeatedPoint d mc ms cs ss 40 L st h Q := G.run (by decide +kernel) hw
theorem B_Stroke_repeatedPoint_44 {d mc ms cs ss : Nat} {L : List (Option Value)} {st : List Value} {h : g_H} {Q : g_Po} (hw : g_wp Stroke_repeatedPoint d mc ms Q 48 [(44, 1, 0, 0, 0, 0, .aload_n 0), (45, 3, 40, 2, 2239, 0, .invokevirtual 44)] cs ss L st h) : G Stroke_repeatedPoint d mc ms cs ss 44 L st h Q := G.run (by decide +kernel) hw
theorem B_Stroke_repeatedPoint_48 {d mc ms cs ss : Nat} {L : List (Option Value)} {st : List Value} {h : g_H} {Q : g_Po} (hw : g_wp Stroke_repeatedPoint d mc ms Q 51 [(48, 3, 55, 0, 0, 0, .if_icmp .ne 7)] cs ss L st h) : G Stroke_repeatedPoint d mc ms cs ss 48 L st h Q := G.run (by decide +kernel) hw
theorem B_Stroke_repeatedPoint_51 {d mc ms cs ss : Nat} {L : List (Option Value)} {st : List Value} {h : g_H} {Q : g_Po} (hw : g_wp Stroke_repeatedPoint d mc ms Q 55 [(51, 1, 0, 0, 0, 0, .iconst 0), (52, 3, 57, 0, 0, 0, .goto 5)] cs ss L st h) : G Stroke_repeatedPoint d mc ms cs ss 51 L st h Q := G.run (by decide +kernel) hw
theorem B_Stroke_repeatedPoint_55 {d mc ms cs ss : Nat} {L : List (Option Value)} {st : List Value} {h : g_H} {Q : g_Po} (hw : g_wp Stroke_repeatedPoint d mc ms Q 57 [(55, 2, 0, 0, 0, (-6), .bipush (-6))] cs ss L st h) : G Stroke_repeatedPoint d mc ms cs ss 55 L st h Q := G.run (by decide +kernel) hw
theorem B_Stroke_repeatedPoint_57 {d mc ms cs ss : Nat} {L : List (Option Value)} {st : List Value} {h : g_H} {Q : g_Po} (hw : g_wp Stroke_repeatedPoint d mc ms Q 58 [(57, 1, 0, 0, 0, 0, .ireturn)] cs ss L st h) : G Stroke_repeatedPoint d mc ms cs ss 57 L st h Q := G.run (by decide +kernel) hw
theorem Stroke_at_f {d s j : Nat} {n z : Int} {f : Nat → Int32} {h : g_H} {Q : g_Po} (hs : stk h s n z f) (hj : j < 30) (hQ : Q (some (.int (f j))) h) : Call Stroke_at d 0 0 [.ref s, .int (I (j : Int))] h Q := by
  refine Call.intro (by rfl) (Nat.le_of_ble_eq_true rfl) ?_
  refine G.eqL (L := [some (.ref _), some (.int _)]) rfl ?_
  refine B_Stroke_at_0 ?_
  simp only [wp_cons, wp_nil, List.getElem?_cons_zero, List.getElem?_cons_succ, List.set_cons_zero, List.set_cons_succ, s_iload_n1, ldI_s, s_ifCond_lt, p1_s, true_and, and_true, Nat.le_refl, true_implies, forall_const, not_false_eq_true, false_implies, not_true_eq_false, reduceCtorEq, tl_s, tl_n, rf_s, List.cons_append, List.nil_append, true_or, or_true]
  refine b_lt (by omega) (by omega) (fun c => absurd c (by omega)) (fun c => ?_)
  refine B_Stroke_at_4 ?_
  simp only [wp_cons, wp_nil, List.getElem?_cons_zero, List.getElem?_cons_succ, List.set_cons_zero, List.set_cons_succ, s_iload_n1, ldI_s, s_aload_n0, ldA_r, ldA_n, ldA_s, s_getfield, pR_s, ob_s, gt_s, s_arraylength, al_0, al_1, al_2, al_3, s_if_icmp_ge, p2_s, true_and, and_true, Nat.le_refl, true_implies, forall_const, not_false_eq_true, false_implies, not_true_eq_false, reduceCtorEq, tl_s, tl_n, rf_s, List.cons_append, List.nil_append, true_or, or_true, hs.1, hs.2]
  refine b_le (by omega) (by omega) (fun c => absurd c (by omega)) (fun c => ?_)
  refine B_Stroke_at_13 ?_
  simp only [wp_cons, wp_nil, List.getElem?_cons_zero, List.getElem?_cons_succ, List.set_cons_zero, List.set_cons_succ, s_aload_n0, ldA_r, ldA_n, ldA_s, s_getfield, pR_s, ob_s, gt_s, s_iload_n1, ldI_s, s_iaload, iR_s, ia_s, s_goto, true_and, and_true, Nat.le_refl, true_implies, forall_const, not_false_eq_true, false_implies, not_true_eq_false, reduceCtorEq, tl_s, tl_n, rf_s, List.cons_append, List.nil_append, true_or, or_true, hs.1, hs.2]
  refine ⟨j, ⟨hj, by omega⟩, rfl, ?_⟩
  refine B_Stroke_at_23 ?_
  simp only [wp_cons, wp_nil, List.getElem?_cons_zero, List.getElem?_cons_succ, List.set_cons_zero, List.set_cons_succ, s_ireturn, p1_s, rI_i, rI_z, rI_c, z_01, z_11, rt_Stroke_at, true_and, and_true, Nat.le_refl, true_implies, forall_const, not_false_eq_true, false_implies, not_true_eq_false, reduceCtorEq, tl_s, tl_n, rf_s, List.cons_append, List.nil_append, true_or, or_true]
  exact hQ
theorem Stroke_at_c {d s j : Nat} {S : Stk} {h : g_H} {Q : g_Po} (hs : stL h s S) (hj : j < S.1.length) (hQ : Q (some (.int (I (pg S.1 j)))) h) : Call Stroke_at d 0 0 [.ref s, .int (I (j : Int))] h Q := by
  obtain ⟨f, h1, h2, h3⟩ := hs
  refine Stroke_at_f h1 (by omega) ?_
  rw [h3 j hj]; exact hQ
theorem Stroke_put_f {d s j : Nat} {n z : Int} {x : Int32} {f : Nat → Int32} {h : g_H} {Q : g_Po} (hs : stk h s n z f) (hj : j < 30) (hQ : ∀ h', chg s (s + 2) h h' → stk h' s n z (upd f j x) → Q none h') : Call Stroke_put d 0 0 [.ref s, .int (I (j : Int)), .int x] h Q := by
  refine Call.intro (by rfl) (Nat.le_of_ble_eq_true rfl) ?_
  refine G.eqL (L := [some (.ref _), some (.int _), some (.int _)]) rfl ?_
  refine B_Stroke_put_0 ?_
  simp only [wp_cons, wp_nil, List.getElem?_cons_zero, List.getElem?_cons_succ, List.set_cons_zero, List.set_cons_succ, s_iload_n1, ldI_s, s_ifCond_lt, p1_s, true_and, and_true, Nat.le_refl, true_implies, forall_const, not_false_eq_true, false_implies, not_true_eq_false, reduceCtorEq, tl_s, tl_n, rf_s, List.cons_append, List.nil_append, true_or, or_true]
  refine b_lt (by omega) (by omega) (fun c => absurd c (by omega)) (fun c => ?_)
  refine B_Stroke_put_4 ?_
  simp only [wp_cons, wp_nil, List.getElem?_cons_zero, List.getElem?_cons_succ, List.set_cons_zero, List.set_cons_succ, s_iload_n1, ldI_s, s_aload_n0, ldA_r, ldA_n, ldA_s, s_getfield, pR_s, ob_s, gt_s, s_arraylength, al_0, al_1, al_2, al_3, s_if_icmp_ge, p2_s, true_and, and_true, Nat.le_refl, true_implies, forall_const, not_false_eq_true, false_implies, not_true_eq_false, reduceCtorEq, tl_s, tl_n, rf_s, List.cons_append, List.nil_append, true_or, or_true, hs.1, hs.2]
  refine b_le (by omega) (by omega) (fun c => absurd c (by omega)) (fun c => ?_)
  refine B_Stroke_put_13 ?_
  simp only [wp_cons, wp_nil, List.getElem?_cons_zero, List.getElem?_cons_succ, List.set_cons_zero, List.set_cons_succ, s_aload_n0, ldA_r, ldA_n, ldA_s, s_getfield, pR_s, ob_s, gt_s, s_iload_n1, ldI_s, s_iload_n2, s_iastore, iiR_s, ia_s, true_and, and_true, Nat.le_refl, true_implies, forall_const, not_false_eq_true, false_implies, not_true_eq_false, reduceCtorEq, tl_s, tl_n, rf_s, List.cons_append, List.nil_append, true_or, or_true, hs.1, hs.2]
  refine ⟨j, ⟨hj, by omega⟩, rfl, ?_⟩
  refine B_Stroke_put_20 ?_
  simp only [wp_cons, wp_nil, List.getElem?_cons_zero, List.getElem?_cons_succ, List.set_cons_zero, List.set_cons_succ, s_return_, rt_Stroke_put, true_and, and_true, Nat.le_refl, true_implies, forall_const, not_false_eq_true, false_implies, not_true_eq_false, reduceCtorEq, tl_s, tl_n, rf_s, List.cons_append, List.nil_append, true_or, or_true]
  exact hQ _ (chg.set _ (by omega)) ⟨(h_ne _ (by omega)).trans hs.1, h_at _ hs.2⟩
theorem Stroke_put_c {d s j : Nat} {p : Int} {S : Stk} {h : g_H} {Q : g_Po} (hs : stL h s S) (hj : j < S.1.length) (hQ : ∀ h', chg s (s + 2) h h' → stL h' s (S.1.set j p, S.2) → Q none h') : Call Stroke_put d 0 0 [.ref s, .int (I (j : Int)), .int (I p)] h Q := by
  obtain ⟨f, h1, h2, h3⟩ := hs
  refine Stroke_put_f h1 (by omega) (fun h' c hk => hQ h' c ⟨upd f j (I p), ?_, ?_, fun i hi => ?_⟩)
  · simpa using hk
  · simpa using h2
  · have hi' : i < S.1.length := by simpa using hi
    show upd f j (I p) i = I (pg (S.1.set j p) i)
    rw [pg_set _ _ _ hj]
    by_cases e : i = j
    · rw [if_pos e, e, upd_same]
    · rw [if_neg e, upd_ne _ _ e, h3 i hi']
theorem Stroke_add_c {d s : Nat} {p : Int} {S : Stk} {h : g_H} {Q : g_Po} (hs : stL h s S) (hj : S.1.length < 30) (hQ : ∀ h', chg s (s + 2) h h' → stL h' s (S.1 ++ [p], S.2) → Q none h') : Call Stroke_add d 0 0 [.ref s, .int (I p)] h Q := by
  obtain ⟨f, h1, h2, h3⟩ := hs
  refine Call.intro (by rfl) (Nat.le_of_ble_eq_true rfl) ?_
  refine G.eqL (L := [some (.ref _), some (.int _)]) rfl ?_
  refine B_Stroke_add_0 ?_
  simp only [wp_cons, wp_nil, List.getElem?_cons_zero, List.getElem?_cons_succ, List.set_cons_zero, List.set_cons_succ, s_aload_n0, ldA_r, ldA_n, ldA_s, s_getfield, pR_s, ob_s, gt_s, s_ifCond_lt, p1_s, true_and, and_true, Nat.le_refl, true_implies, forall_const, not_false_eq_true, false_implies, not_true_eq_false, reduceCtorEq, tl_s, tl_n, rf_s, List.cons_append, List.nil_append, true_or, or_true, h1.1]
  refine b_lt (by omega) (by omega) (fun c => absurd c (by omega)) (fun c => ?_)
  refine B_Stroke_add_7 ?_
  simp only [wp_cons, wp_nil, List.getElem?_cons_zero, List.getElem?_cons_succ, List.set_cons_zero, List.set_cons_succ, s_aload_n0, ldA_r, ldA_n, ldA_s, s_getfield, pR_s, ob_s, gt_s, s_arraylength, al_0, al_1, al_2, al_3, s_if_icmp_ge, p2_s, true_and, and_true, Nat.le_refl, true_implies, forall_const, not_false_eq_true, false_implies, not_true_eq_false, reduceCtorEq, tl_s, tl_n, rf_s, List.cons_append, List.nil_append, true_or, or_true, h1.1, h1.2]
  refine b_le (by omega) (by omega) (fun c => absurd c (by omega)) (fun c => ?_)
  refine B_Stroke_add_19 ?_
  simp only [wp_cons, wp_nil, List.getElem?_cons_zero, List.getElem?_cons_succ, List.set_cons_zero, List.set_cons_succ, s_aload_n0, ldA_r, ldA_n, ldA_s, s_getfield, pR_s, ob_s, gt_s, s_iload_n1, ldI_s, s_iastore, iiR_s, ia_s, s_dup, p1v_i, p1v_r, s_iconst, s_iadd, p2_s, I_add, s_putfield, pv_i, pv_z, pv_r, pv_f, z_01, z_11, List.length_cons, List.length_nil, true_and, and_true, Nat.le_refl, true_implies, forall_const, not_false_eq_true, false_implies, not_true_eq_false, reduceCtorEq, tl_s, tl_n, rf_s, List.cons_append, List.nil_append, true_or, or_true, h1.1, h1.2]
  refine ⟨S.1.length, ⟨hj, by omega⟩, rfl, ?_⟩
  have e1 : (h.set (s + 1) (.inl (0, 30, upd f S.1.length (I p))))[s]? = some (.inr (.inr (2, [.ref (s + 1), .int (I S.1.length), .int (I (sz S.2))]))) := (h_ne _ (by omega)).trans h1.1
  simp only [wp_cons, wp_nil, s_aload_n0, ldA_r, s_dup, p1v_r, s_getfield, pR_s, e1, ob_s, gt_s, s_iconst, s_iadd, p2_s, I_add, s_putfield, pv_i, List.getElem?_cons_zero, List.getElem?_cons_succ, List.set_cons_zero, List.set_cons_succ, List.length_cons, List.length_nil, Nat.reduceAdd, Nat.reduceLT, true_and]
  refine B_Stroke_add_39 ?_
  simp only [wp_cons, wp_nil, List.getElem?_cons_zero, List.getElem?_cons_succ, List.set_cons_zero, List.set_cons_succ, s_return_, rt_Stroke_add, true_and, and_true, Nat.le_refl, true_implies, forall_const, not_false_eq_true, false_implies, not_true_eq_false, reduceCtorEq, tl_s, tl_n, rf_s, List.cons_append, List.nil_append, true_or, or_true]
  refine hQ _ ((chg.set _ (by omega)).tr (chg.set _ (by omega))) ⟨upd f S.1.length (I p), ⟨?_, ?_⟩, ?_, fun i hi => ?_⟩
  · rw [h_at _ e1]; simp
  · rw [h_ne _ (by omega), h_at _ h1.2]
  · simp; omega
  · simp at hi
    show upd f S.1.length (I p) i = I (pg (S.1 ++ [p]) i)
    by_cases e : i = S.1.length
    · subst e; rw [upd_same, pg_app_r _ _ (Nat.le_refl _), Nat.sub_self]; rfl
    · rw [upd_ne _ _ e, pg_app_l _ _ (by omega), h3 i (by omega)]
theorem Stroke_empty_c {d s : Nat} {h : g_H} {Q : g_Po} (hs : stX h s) (hQ : ∀ h', chg s (s + 2) h h' → stL h' s ([], false) → Q none h') : Call Stroke_empty d 0 0 [.ref s] h Q := by
  obtain ⟨n, z, f, h1, h2⟩ := hs
  refine Call.intro (by rfl) (Nat.le_of_ble_eq_true rfl) ?_
  refine G.eqL (L := [some (.ref _)]) rfl ?_
  refine B_Stroke_empty_0 ?_
  simp only [wp_cons, wp_nil, List.getElem?_cons_zero, List.getElem?_cons_succ, List.set_cons_zero, List.set_cons_succ, s_aload_n0, ldA_r, ldA_n, ldA_s, s_iconst, s_putfield, pv_i, pv_z, pv_r, pv_f, ob_s, z_01, z_11, List.length_cons, List.length_nil, s_return_, rt_Stroke_empty, true_and, and_true, Nat.le_refl, true_implies, forall_const, not_false_eq_true, false_implies, not_true_eq_false, reduceCtorEq, tl_s, tl_n, rf_s, List.cons_append, List.nil_append, true_or, or_true, h1, h_at _ h1, Nat.reduceLT, Nat.reduceAdd]
  refine hQ _ ((chg.set _ (by omega)).tr (chg.set _ (by omega))) ⟨f, ⟨?_, ?_⟩, by simp, fun i hi => absurd hi (by simp)⟩
  · rw [h_at _ (h_at _ h1)]; rfl
  · rw [h_ne _ (by omega), h_ne _ (by omega)]; exact h2
theorem Stroke_shorten_c {d s m : Nat} (d1 : 1 ≤ d) {S : Stk} {h : g_H} {Q : g_Po} (hs : stL h s S) (hm : m ≤ S.1.length) (hQ : ∀ h', chg s (s + 2) h h' → stL h' s (S.1.take m, S.2) → Q none h') : Call Stroke_shorten d 0 0 [.ref s, .int (I (m : Int))] h Q := by
  obtain ⟨f, h1, h2, h3⟩ := hs
  have e1 : (if I (m : Int) < I 0 then I 0 else I (m : Int)) = I (m : Int) := by rw [I_mx (by omega) (by omega)]; congr 1; omega
  have e2 : (if I (m : Int) < I (S.1.length : Int) then I (m : Int) else I (S.1.length : Int)) = I (m : Int) := by rw [I_mn (by omega) (by omega)]; congr 1; omega
  refine Call.intro (by rfl) (Nat.le_of_ble_eq_true rfl) ?_
  refine G.eqL (L := [some (.ref _), some (.int _)]) rfl ?_
  refine B_Stroke_shorten_0 ?_
  simp only [wp_cons, wp_nil, List.getElem?_cons_zero, List.getElem?_cons_succ, List.set_cons_zero, List.set_cons_succ, s_aload_n0, ldA_r, ldA_n, ldA_s, s_getfield, pR_s, ob_s, gt_s, s_iload_n1, ldI_s, s_iconst, s_invokestatic, rc_s, List.drop_succ_cons, List.drop_zero, List.take_succ_cons, List.take_zero, List.reverse_cons, List.reverse_nil, List.nil_append, List.cons_append, List.length_cons, List.length_nil, Nat.reduceEqDiff, eq_self, reduceIte, p1_s, p2_s, l1_s, d1, Int.reduceToNat, Nat.reduceAdd, Nat.reduceLeDiff, s_putfield, pv_i, pv_z, pv_r, pv_f, z_01, z_11, s_return_, rt_Stroke_shorten, true_and, and_true, Nat.le_refl, true_implies, forall_const, not_false_eq_true, false_implies, not_true_eq_false, reduceCtorEq, tl_s, tl_n, rf_s, true_or, or_true, h1.1, e1, e2, Nat.reduceLT]
  refine hQ _ (chg.set _ (by omega)) ⟨f, ⟨?_, ?_⟩, ?_, fun i hi => ?_⟩
  · rw [h_at _ h1.1]; simp [Nat.min_eq_left hm]
  · rw [h_ne _ (by omega)]; exact h1.2
  · simp; omega
  · simp at hi
    show f i = I (pg (S.1.take m) i)
    rw [pg_take _ (by omega), h3 i (by omega)]
theorem Stroke_copyFrom_l {d s t n : Nat} (d1 : 1 ≤ d) {z : Int} {g : Nat → Int32} {h : g_H} {Q : g_Po} (hn : n ≤ 30) (hst : t + 2 ≤ s ∨ s + 2 ≤ t) (hQ : ∀ h' f', stk h' s n z f' → (∀ j, j < n → f' j = g j) → chg s (s + 2) h h' → Q none h') : ∀ (m i : Nat) (h1 : g_H) (f : Nat → Int32), i + m = n → stk h1 s n z f → stk h1 t n z g → (∀ j, j < i → f j = g j) → chg s (s + 2) h h1 →
    G Stroke_copyFrom d 0 0 0 0 18 [some (.ref s), some (.ref t), some (.int (I (i : Int)))] [] h1 Q := by
  intro m
  induction m with
  | zero =>
    intro i h1 f hi hs ht hf c
    refine B_Stroke_copyFrom_18 ?_
    simp only [wp_cons, wp_nil, List.getElem?_cons_zero, List.getElem?_cons_succ, List.set_cons_zero, List.set_cons_succ, s_iload_n2, ldI_s, s_aload_n0, ldA_r, ldA_n, ldA_s, s_getfield, pR_s, ob_s, gt_s, s_if_icmp_ge, p2_s, true_and, and_true, Nat.le_refl, true_implies, forall_const, not_false_eq_true, false_implies, not_true_eq_false, reduceCtorEq, tl_s, tl_n, rf_s, List.cons_append, List.nil_append, true_or, or_true, hs.1]
    refine b_le (by omega) (by omega) (fun c1 => ?_) (fun c1 => absurd c1 (by omega))
    refine B_Stroke_copyFrom_42 ?_
    simp only [wp_cons, wp_nil, List.getElem?_cons_zero, List.getElem?_cons_succ, List.set_cons_zero, List.set_cons_succ, s_return_, rt_Stroke_copyFrom, true_and, and_true, Nat.le_refl, true_implies, forall_const, not_false_eq_true, false_implies, not_true_eq_false, reduceCtorEq, tl_s, tl_n, rf_s, List.cons_append, List.nil_append, true_or, or_true]
    exact hQ _ _ hs (fun j hj => hf j (by omega)) c
  | succ m ih =>
    intro i h1 f hi hs ht hf c
    refine B_Stroke_copyFrom_18 ?_
    simp only [wp_cons, wp_nil, List.getElem?_cons_zero, List.getElem?_cons_succ, List.set_cons_zero, List.set_cons_succ, s_iload_n2, ldI_s, s_aload_n0, ldA_r, ldA_n, ldA_s, s_getfield, pR_s, ob_s, gt_s, s_if_icmp_ge, p2_s, true_and, and_true, Nat.le_refl, true_implies, forall_const, not_false_eq_true, false_implies, not_true_eq_false, reduceCtorEq, tl_s, tl_n, rf_s, List.cons_append, List.nil_append, true_or, or_true, hs.1]
    refine b_le (by omega) (by omega) (fun c1 => absurd c1 (by omega)) (fun c1 => ?_)
    refine B_Stroke_copyFrom_26 ?_
    simp only [wp_cons, wp_nil, List.getElem?_cons_zero, List.getElem?_cons_succ, List.set_cons_zero, List.set_cons_succ, s_aload_n0, ldA_r, ldA_n, ldA_s, s_iload_n2, ldI_s, s_aload_n1, s_invokevirtual, rc_s, ob_s, List.drop_succ_cons, List.drop_zero, List.take_succ_cons, List.take_zero, List.reverse_cons, List.reverse_nil, List.nil_append, List.cons_append, List.length_cons, List.length_nil, d1, Int.reduceToNat, Nat.reduceAdd, Nat.reduceLeDiff, true_and, and_true, Nat.le_refl, true_implies, forall_const, not_false_eq_true, false_implies, not_true_eq_false, reduceCtorEq, tl_s, tl_n, rf_s, true_or, or_true, ht.1]
    refine Stroke_at_f ht (by omega) ?_
    refine B_Stroke_copyFrom_33 ?_
    simp only [wp_cons, wp_nil, List.getElem?_cons_zero, List.getElem?_cons_succ, List.set_cons_zero, List.set_cons_succ, s_invokevirtual, rc_s, ob_s, List.drop_succ_cons, List.drop_zero, List.take_succ_cons, List.take_zero, List.reverse_cons, List.reverse_nil, List.nil_append, List.cons_append, List.length_cons, List.length_nil, d1, Int.reduceToNat, Nat.reduceAdd, Nat.reduceLeDiff, true_and, and_true, Nat.le_refl, true_implies, forall_const, not_false_eq_true, false_implies, not_true_eq_false, reduceCtorEq, tl_s, tl_n, rf_s, true_or, or_true, hs.1]
    refine Stroke_put_f hs (by omega) (fun h2 c2 hs2 => ?_)
    refine B_Stroke_copyFrom_36 ?_
    simp only [wp_cons, wp_nil, List.getElem?_cons_zero, List.getElem?_cons_succ, List.set_cons_zero, List.set_cons_succ, s_iinc, ldI_s, s1_0, s1_s, kx_i, kx_r, kx_s, kx_n, kx_l, kx_0, I_add, s_goto, true_and, and_true, Nat.le_refl, true_implies, forall_const, not_false_eq_true, false_implies, not_true_eq_false, reduceCtorEq, tl_s, tl_n, rf_s, List.cons_append, List.nil_append, true_or, or_true]
    refine ih (i + 1) h2 _ (by omega) hs2 (ht.kp c2 (by omega)) (fun j hj => ?_) (c.tr c2)
    by_cases e : j = i
    · rw [e, upd_same]
    · rw [upd_ne _ _ e]; exact hf j (by omega)
theorem Stroke_copyFrom_c {d s t : Nat} (d1 : 1 ≤ d) {T : Stk} {h : g_H} {Q : g_Po} (hs : stX h s) (ht : stL h t T) (hst : t + 2 ≤ s ∨ s + 2 ≤ t) (hQ : ∀ h', chg s (s + 2) h h' → stL h' s T → Q none h') : Call Stroke_copyFrom d 0 0 [.ref s, .ref t] h Q := by
  obtain ⟨n, z, f, h1, h2⟩ := hs
  obtain ⟨g, k1, k2, k3⟩ := ht
  refine Call.intro (by rfl) (Nat.le_of_ble_eq_true rfl) ?_
  refine G.eqL (L := [some (.ref _), some (.ref _), none]) rfl ?_
  refine B_Stroke_copyFrom_0 ?_
  simp only [wp_cons, wp_nil, List.getElem?_cons_zero, List.getElem?_cons_succ, List.set_cons_zero, List.set_cons_succ, s_aload_n0, ldA_r, ldA_n, ldA_s, s_aload_n1, s_getfield, pR_s, ob_s, gt_s, s_putfield, pv_i, pv_z, pv_r, pv_f, z_01, z_11, List.length_cons, List.length_nil, s_iconst, s_istore_n2, p1_s, s1_0, s1_s, kx_i, kx_r, kx_s, kx_n, kx_l, kx_0, true_and, and_true, Nat.le_refl, true_implies, forall_const, not_false_eq_true, false_implies, not_true_eq_false, reduceCtorEq, tl_s, tl_n, rf_s, List.cons_append, List.nil_append, true_or, or_true, h1, k1.1, h_at _ h1, h_ne (h := h) (a := s) (b := t) _ (by omega), Nat.reduceLT, Nat.reduceAdd, sz_I]
  refine Stroke_copyFrom_l d1 (n := T.1.length) (z := sz T.2) (g := g) (h := h) k2 hst (fun h' f' q1 q2 q3 => hQ h' q3 ⟨f', q1, k2, fun i hi => (q2 i hi).trans (k3 i hi)⟩) T.1.length 0 _ f (by omega) ⟨?_, ?_⟩ ⟨?_, ?_⟩ (fun j hj => absurd hj (by omega)) ((chg.set _ (by omega)).tr (chg.set _ (by omega)))
  · rw [h_at _ (h_at _ h1)]
  · rw [h_ne _ (by omega), h_ne _ (by omega)]; exact h2
  · rw [h_ne _ (by omega), h_ne _ (by omega)]; exact k1.1
  · rw [h_ne _ (by omega), h_ne _ (by omega)]; exact k1.2
theorem Stroke_first_c {d s : Nat} (d1 : 1 ≤ d) {S : Stk} {h : g_H} {Q : g_Po} (hs : stL h s S) (hl : 0 < S.1.length) (hQ : Q (some (.int (I (pg S.1 0)))) h) : Call Stroke_firstPoint d 0 0 [.ref s] h Q := by
  have hs0 := hs
  obtain ⟨f, h1, h2, h3⟩ := hs
  refine Call.intro (by rfl) (Nat.le_of_ble_eq_true rfl) ?_
  refine G.eqL (L := [some (.ref _)]) rfl ?_
  refine B_Stroke_firstPoint_0 ?_
  simp only [wp_cons, wp_nil, List.getElem?_cons_zero, List.getElem?_cons_succ, List.set_cons_zero, List.set_cons_succ, s_aload_n0, ldA_r, ldA_n, ldA_s, s_iconst, s_invokevirtual, rc_s, ob_s, List.drop_succ_cons, List.drop_zero, List.take_succ_cons, List.take_zero, List.reverse_cons, List.reverse_nil, List.nil_append, List.cons_append, List.length_cons, List.length_nil, d1, Int.reduceToNat, Nat.reduceAdd, Nat.reduceLeDiff, true_and, and_true, Nat.le_refl, true_implies, forall_const, not_false_eq_true, false_implies, not_true_eq_false, reduceCtorEq, tl_s, tl_n, rf_s, true_or, or_true, h1.1]
  refine Stroke_at_c (j := 0) hs0 hl ?_
  refine B_Stroke_firstPoint_5 ?_
  simp only [wp_cons, wp_nil, List.getElem?_cons_zero, List.getElem?_cons_succ, List.set_cons_zero, List.set_cons_succ, s_ireturn, p1_s, rI_i, rI_z, rI_c, z_01, z_11, rt_Stroke_firstPoint, true_and, and_true, Nat.le_refl, true_implies, forall_const, not_false_eq_true, false_implies, not_true_eq_false, reduceCtorEq, tl_s, tl_n, rf_s, List.cons_append, List.nil_append, true_or, or_true]
  exact hQ
theorem Stroke_last_c {d s : Nat} (d1 : 1 ≤ d) {S : Stk} {h : g_H} {Q : g_Po} (hs : stL h s S) (hl : 0 < S.1.length) (hQ : Q (some (.int (I (pg S.1 (S.1.length - 1))))) h) : Call Stroke_lastPoint d 0 0 [.ref s] h Q := by
  have hs0 := hs
  obtain ⟨f, h1, h2, h3⟩ := hs
  refine Call.intro (by rfl) (Nat.le_of_ble_eq_true rfl) ?_
  refine G.eqL (L := [some (.ref _)]) rfl ?_
  refine B_Stroke_lastPoint_0 ?_
  simp only [wp_cons, wp_nil, List.getElem?_cons_zero, List.getElem?_cons_succ, List.set_cons_zero, List.set_cons_succ, s_aload_n0, ldA_r, ldA_n, ldA_s, s_getfield, pR_s, ob_s, gt_s, s_iconst, s_isub, p2_s, I_sub, s_invokevirtual, rc_s, List.drop_succ_cons, List.drop_zero, List.take_succ_cons, List.take_zero, List.reverse_cons, List.reverse_nil, List.nil_append, List.cons_append, List.length_cons, List.length_nil, d1, Int.reduceToNat, Nat.reduceAdd, Nat.reduceLeDiff, true_and, and_true, Nat.le_refl, true_implies, forall_const, not_false_eq_true, false_implies, not_true_eq_false, reduceCtorEq, tl_s, tl_n, rf_s, true_or, or_true, h1.1]
  rw [show ((S.1.length : Int) - 1) = ((S.1.length - 1 : Nat) : Int) by omega]
  refine Stroke_at_c hs0 (by omega) ?_
  refine B_Stroke_lastPoint_10 ?_
  simp only [wp_cons, wp_nil, List.getElem?_cons_zero, List.getElem?_cons_succ, List.set_cons_zero, List.set_cons_succ, s_ireturn, p1_s, rI_i, rI_z, rI_c, z_01, z_11, rt_Stroke_lastPoint, true_and, and_true, Nat.le_refl, true_implies, forall_const, not_false_eq_true, false_implies, not_true_eq_false, reduceCtorEq, tl_s, tl_n, rf_s, List.cons_append, List.nil_append, true_or, or_true]
  exact hQ
def pr (l : List Int) (i : Nat) : Int := pg l (if i < l.length then i else 0)
theorem Stroke_around_c {d s i : Nat} (d1 : 1 ≤ d) {S : Stk} {h : g_H} {Q : g_Po} (hs : stL h s S) (hl : 0 < S.1.length) (hi : i < 100) (hQ : Q (some (.int (I (pr S.1 i)))) h) : Call Stroke_around d 0 0 [.ref s, .int (I (i : Int))] h Q := by
  have hs0 := hs
  obtain ⟨f, h1, h2, h3⟩ := hs
  unfold pr at hQ
  refine Call.intro (by rfl) (Nat.le_of_ble_eq_true rfl) ?_
  refine G.eqL (L := [some (.ref _), some (.int _)]) rfl ?_
  refine B_Stroke_around_0 ?_
  simp only [wp_cons, wp_nil, List.getElem?_cons_zero, List.getElem?_cons_succ, List.set_cons_zero, List.set_cons_succ, s_aload_n0, ldA_r, ldA_n, ldA_s, s_iload_n1, ldI_s, s_getfield, pR_s, ob_s, gt_s, s_if_icmp_ge, p2_s, true_and, and_true, Nat.le_refl, true_implies, forall_const, not_false_eq_true, false_implies, not_true_eq_false, reduceCtorEq, tl_s, tl_n, rf_s, List.cons_append, List.nil_append, true_or, or_true, h1.1]
  refine b_le (by omega) (by omega) (fun c => ?_) (fun c => ?_)
  · rw [if_neg (by omega)] at hQ
    refine B_Stroke_around_13 ?_
    simp only [wp_cons, wp_nil, List.getElem?_cons_zero, List.getElem?_cons_succ, List.set_cons_zero, List.set_cons_succ, s_iconst, true_and, and_true, Nat.le_refl, true_implies, forall_const, not_false_eq_true, false_implies, not_true_eq_false, reduceCtorEq, tl_s, tl_n, rf_s, List.cons_append, List.nil_append, true_or, or_true]
    refine B_Stroke_around_14 ?_
    simp only [wp_cons, wp_nil, List.getElem?_cons_zero, List.getElem?_cons_succ, List.set_cons_zero, List.set_cons_succ, s_invokevirtual, rc_s, ob_s, List.drop_succ_cons, List.drop_zero, List.take_succ_cons, List.take_zero, List.reverse_cons, List.reverse_nil, List.nil_append, List.cons_append, List.length_cons, List.length_nil, d1, Int.reduceToNat, Nat.reduceAdd, Nat.reduceLeDiff, true_and, and_true, Nat.le_refl, true_implies, forall_const, not_false_eq_true, false_implies, not_true_eq_false, reduceCtorEq, tl_s, tl_n, rf_s, true_or, or_true, h1.1]
    refine Stroke_at_c (j := 0) hs0 hl ?_
    refine B_Stroke_around_17 ?_
    simp only [wp_cons, wp_nil, List.getElem?_cons_zero, List.getElem?_cons_succ, List.set_cons_zero, List.set_cons_succ, s_ireturn, p1_s, rI_i, rI_z, rI_c, z_01, z_11, rt_Stroke_around, true_and, and_true, Nat.le_refl, true_implies, forall_const, not_false_eq_true, false_implies, not_true_eq_false, reduceCtorEq, tl_s, tl_n, rf_s, List.cons_append, List.nil_append, true_or, or_true]
    exact hQ
  · rw [if_pos (by omega)] at hQ
    refine B_Stroke_around_9 ?_
    simp only [wp_cons, wp_nil, List.getElem?_cons_zero, List.getElem?_cons_succ, List.set_cons_zero, List.set_cons_succ, s_iload_n1, ldI_s, s_goto, true_and, and_true, Nat.le_refl, true_implies, forall_const, not_false_eq_true, false_implies, not_true_eq_false, reduceCtorEq, tl_s, tl_n, rf_s, List.cons_append, List.nil_append, true_or, or_true]
    refine B_Stroke_around_14 ?_
    simp only [wp_cons, wp_nil, List.getElem?_cons_zero, List.getElem?_cons_succ, List.set_cons_zero, List.set_cons_succ, s_invokevirtual, rc_s, ob_s, List.drop_succ_cons, List.drop_zero, List.take_succ_cons, List.take_zero, List.reverse_cons, List.reverse_nil, List.nil_append, List.cons_append, List.length_cons, List.length_nil, d1, Int.reduceToNat, Nat.reduceAdd, Nat.reduceLeDiff, true_and, and_true, Nat.le_refl, true_implies, forall_const, not_false_eq_true, false_implies, not_true_eq_false, reduceCtorEq, tl_s, tl_n, rf_s, true_or, or_true, h1.1]
    refine Stroke_at_c hs0 (by omega) ?_
    refine B_Stroke_around_17 ?_
    simp only [wp_cons, wp_nil, List.getElem?_cons_zero, List.getElem?_cons_succ, List.set_cons_zero, List.set_cons_succ, s_ireturn, p1_s, rI_i, rI_z, rI_c, z_01, z_11, rt_Stroke_around, true_and, and_true, Nat.le_refl, true_implies, forall_const, not_false_eq_true, false_implies, not_true_eq_false, reduceCtorEq, tl_s, tl_n, rf_s, List.cons_append, List.nil_append, true_or, or_true]
    exact hQ
def pcs (S : Stk) : Nat := if S.2 = true then S.1.length else S.1.length - 1
theorem Stroke_pieceCount_c {d s : Nat} {S : Stk} {h : g_H} {Q : g_Po} (hs : stL h s S) (hl : 0 < S.1.length) (hQ : Q (some (.int (I (pcs S : Int)))) h) : Call Stroke_pieceCount d 0 0 [.ref s] h Q := by
  obtain ⟨f, h1, h2, h3⟩ := hs
  have hz := sz_bd S.2
  unfold pcs at hQ
  refine Call.intro (by rfl) (Nat.le_of_ble_eq_true rfl) ?_
  refine G.eqL (L := [some (.ref _)]) rfl ?_
  refine B_Stroke_pieceCount_0 ?_
  simp only [wp_cons, wp_nil, List.getElem?_cons_zero, List.getElem?_cons_succ, List.set_cons_zero, List.set_cons_succ, s_aload_n0, ldA_r, ldA_n, ldA_s, s_getfield, pR_s, ob_s, gt_s, s_ifCond_eq, p1_s, true_and, and_true, Nat.le_refl, true_implies, forall_const, not_false_eq_true, false_implies, not_true_eq_false, reduceCtorEq, tl_s, tl_n, rf_s, List.cons_append, List.nil_append, true_or, or_true, h1.1]
  refine b_eq (by omega) (by omega) (fun c => ?_) (fun c => ?_)
  · refine B_Stroke_pieceCount_14 ?_
    simp only [wp_cons, wp_nil, List.getElem?_cons_zero, List.getElem?_cons_succ, List.set_cons_zero, List.set_cons_succ, s_aload_n0, ldA_r, ldA_n, ldA_s, s_getfield, pR_s, ob_s, gt_s, s_iconst, s_isub, p2_s, I_sub, true_and, and_true, Nat.le_refl, true_implies, forall_const, not_false_eq_true, false_implies, not_true_eq_false, reduceCtorEq, tl_s, tl_n, rf_s, List.cons_append, List.nil_append, true_or, or_true, h1.1]
    refine B_Stroke_pieceCount_20 ?_
    simp only [wp_cons, wp_nil, List.getElem?_cons_zero, List.getElem?_cons_succ, List.set_cons_zero, List.set_cons_succ, s_ireturn, p1_s, rI_i, rI_z, rI_c, z_01, z_11, rt_Stroke_pieceCount, true_and, and_true, Nat.le_refl, true_implies, forall_const, not_false_eq_true, false_implies, not_true_eq_false, reduceCtorEq, tl_s, tl_n, rf_s, List.cons_append, List.nil_append, true_or, or_true]
    rw [if_neg (by intro q; simp [sz, q] at c)] at hQ
    rw [show ((S.1.length : Int) - 1) = ((S.1.length - 1 : Nat) : Int) by omega]
    exact hQ
  · refine B_Stroke_pieceCount_7 ?_
    simp only [wp_cons, wp_nil, List.getElem?_cons_zero, List.getElem?_cons_succ, List.set_cons_zero, List.set_cons_succ, s_aload_n0, ldA_r, ldA_n, ldA_s, s_getfield, pR_s, ob_s, gt_s, s_goto, true_and, and_true, Nat.le_refl, true_implies, forall_const, not_false_eq_true, false_implies, not_true_eq_false, reduceCtorEq, tl_s, tl_n, rf_s, List.cons_append, List.nil_append, true_or, or_true, h1.1]
    refine B_Stroke_pieceCount_20 ?_
    simp only [wp_cons, wp_nil, List.getElem?_cons_zero, List.getElem?_cons_succ, List.set_cons_zero, List.set_cons_succ, s_ireturn, p1_s, rI_i, rI_z, rI_c, z_01, z_11, rt_Stroke_pieceCount, true_and, and_true, Nat.le_refl, true_implies, forall_const, not_false_eq_true, false_implies, not_true_eq_false, reduceCtorEq, tl_s, tl_n, rf_s, List.cons_append, List.nil_append, true_or, or_true]
    rw [if_pos (by cases hq : S.2 <;> simp [sz, hq] at c ⊢)] at hQ
    exact hQ
theorem rv_step {l : List Int} {i j : Nat} {r : List Int} (hij : i + j + 1 = l.length) (hlt : i < j) (hl : r.length = l.length) (h : ∀ k, k < l.length → pg r k = if k < i ∨ j < k then pg l (l.length - 1 - k) else pg l k) :
    ∀ k, k < l.length → pg ((r.set i (pg r j)).set j (pg r i)) k = if k < i + 1 ∨ j - 1 < k then pg l (l.length - 1 - k) else pg l k := by
  intro k hk
  rw [pg_set _ _ _ (by rw [List.length_set]; omega), pg_set _ _ _ (by omega)]
  by_cases e1 : k = j
  · subst e1
    rw [if_pos rfl, if_pos (by omega), h i (by omega), if_neg (by omega)]
    congr 1; omega
  · rw [if_neg e1]
    by_cases e2 : k = i
    · subst e2
      rw [if_pos rfl, if_pos (by omega), h j (by omega), if_neg (by omega)]
      congr 1; omega
    · rw [if_neg e2, h k hk]
      by_cases e3 : k < i ∨ j < k
      · rw [if_pos e3, if_pos (by omega)]
      · rw [if_neg e3, if_neg (by omega)]
theorem Stroke_turnRound_l {d s : Nat} (d1 : 1 ≤ d) {S : Stk} {h : g_H} {Q : g_Po} (hl : 0 < S.1.length) (hQ : ∀ h', chg s (s + 2) h h' → stL h' s (S.1.reverse, S.2) → Q none h') : ∀ (m i j : Nat) (h1 : g_H) (r : List Int) (x : Option Value), j + 1 ≤ i + m → i + j + 1 = S.1.length → r.length = S.1.length → stL h1 s (r, S.2) → (∀ k, k < S.1.length → pg r k = if k < i ∨ j < k then pg S.1 (S.1.length - 1 - k) else pg S.1 k) → chg s (s + 2) h h1 →
    G Stroke_turnRound d 0 0 0 0 9 [some (.ref s), some (.int (I (i : Int))), some (.int (I (j : Int))), x] [] h1 Q := by
  intro m
  induction m with
  | zero =>
    intro i j h1 r x hm hij hr hs hk c
    have hb := hs.len
    rw [show (r, S.2).1.length = S.1.length from hr] at hb
    refine B_Stroke_turnRound_9 ?_
    simp only [wp_cons, wp_nil, List.getElem?_cons_zero, List.getElem?_cons_succ, List.set_cons_zero, List.set_cons_succ, s_iload_n1, ldI_s, s_iload_n2, s_if_icmp_ge, p2_s, true_and, and_true, Nat.le_refl, true_implies, forall_const, not_false_eq_true, false_implies, not_true_eq_false, reduceCtorEq, tl_s, tl_n, rf_s, List.cons_append, List.nil_append, true_or, or_true]
    refine b_le (by omega) (by omega) (fun c1 => ?_) (fun c1 => absurd c1 (by omega))
    refine B_Stroke_turnRound_45 ?_
    simp only [wp_cons, wp_nil, List.getElem?_cons_zero, List.getElem?_cons_succ, List.set_cons_zero, List.set_cons_succ, s_return_, rt_Stroke_turnRound, true_and, and_true, Nat.le_refl, true_implies, forall_const, not_false_eq_true, false_implies, not_true_eq_false, reduceCtorEq, tl_s, tl_n, rf_s, List.cons_append, List.nil_append, true_or, or_true]
    refine hQ _ c ?_
    rw [show S.1.reverse = r from (pg_ext (by rw [hr, List.length_reverse]) (fun k hk2 => by
      rw [List.length_reverse] at hk2
      rw [pg_rev _ hk2, hk k hk2]
      by_cases e : k < i ∨ j < k
      · rw [if_pos e]
      · rw [if_neg e]; congr 1; omega))]
    exact hs
  | succ m ih =>
    intro i j h1 r x hm hij hr hs hk c
    have hb := hs.len
    rw [show (r, S.2).1.length = S.1.length from hr] at hb
    refine B_Stroke_turnRound_9 ?_
    simp only [wp_cons, wp_nil, List.getElem?_cons_zero, List.getElem?_cons_succ, List.set_cons_zero, List.set_cons_succ, s_iload_n1, ldI_s, s_iload_n2, s_if_icmp_ge, p2_s, true_and, and_true, Nat.le_refl, true_implies, forall_const, not_false_eq_true, false_implies, not_true_eq_false, reduceCtorEq, tl_s, tl_n, rf_s, List.cons_append, List.nil_append, true_or, or_true]
    refine b_le (by omega) (by omega) (fun c1 => ?_) (fun c1 => ?_)
    · refine B_Stroke_turnRound_45 ?_
      simp only [wp_cons, wp_nil, List.getElem?_cons_zero, List.getElem?_cons_succ, List.set_cons_zero, List.set_cons_succ, s_return_, rt_Stroke_turnRound, true_and, and_true, Nat.le_refl, true_implies, forall_const, not_false_eq_true, false_implies, not_true_eq_false, reduceCtorEq, tl_s, tl_n, rf_s, List.cons_append, List.nil_append, true_or, or_true]
      refine hQ _ c ?_
      rw [show S.1.reverse = r from (pg_ext (by rw [hr, List.length_reverse]) (fun k hk2 => by
        rw [List.length_reverse] at hk2
        rw [pg_rev _ hk2, hk k hk2]
        by_cases e : k < i ∨ j < k
        · rw [if_pos e]
        · rw [if_neg e]; congr 1; omega))]
      exact hs
    · obtain ⟨f, q1, q2, q3⟩ := id hs
      refine B_Stroke_turnRound_14 ?_
      simp only [wp_cons, wp_nil, List.getElem?_cons_zero, List.getElem?_cons_succ, List.set_cons_zero, List.set_cons_succ, s_aload_n0, ldA_r, ldA_n, ldA_s, s_iload_n1, ldI_s, s_invokevirtual, rc_s, ob_s, List.drop_succ_cons, List.drop_zero, List.take_succ_cons, List.take_zero, List.reverse_cons, List.reverse_nil, List.nil_append, List.cons_append, List.length_cons, List.length_nil, d1, Int.reduceToNat, Nat.reduceAdd, Nat.reduceLeDiff, true_and, and_true, Nat.le_refl, true_implies, forall_const, not_false_eq_true, false_implies, not_true_eq_false, reduceCtorEq, tl_s, tl_n, rf_s, true_or, or_true, q1.1]
      refine Stroke_at_c hs (by rw [hr]; omega) ?_
      refine B_Stroke_turnRound_19 ?_
      simp only [wp_cons, wp_nil, List.getElem?_cons_zero, List.getElem?_cons_succ, List.set_cons_zero, List.set_cons_succ, s_istore_n3, p1_s, s1_0, s1_s, kx_i, kx_r, kx_s, kx_n, kx_l, kx_0, s_aload_n0, ldA_r, ldA_n, ldA_s, s_iload_n1, ldI_s, s_iload_n2, s_invokevirtual, rc_s, ob_s, List.drop_succ_cons, List.drop_zero, List.take_succ_cons, List.take_zero, List.reverse_cons, List.reverse_nil, List.nil_append, List.cons_append, List.length_cons, List.length_nil, d1, Int.reduceToNat, Nat.reduceAdd, Nat.reduceLeDiff, true_and, and_true, Nat.le_refl, true_implies, forall_const, not_false_eq_true, false_implies, not_true_eq_false, reduceCtorEq, tl_s, tl_n, rf_s, true_or, or_true, q1.1]
      refine Stroke_at_c hs (by rw [hr]; omega) ?_
      refine B_Stroke_turnRound_27 ?_
      simp only [wp_cons, wp_nil, List.getElem?_cons_zero, List.getElem?_cons_succ, List.set_cons_zero, List.set_cons_succ, s_invokevirtual, rc_s, ob_s, List.drop_succ_cons, List.drop_zero, List.take_succ_cons, List.take_zero, List.reverse_cons, List.reverse_nil, List.nil_append, List.cons_append, List.length_cons, List.length_nil, d1, Int.reduceToNat, Nat.reduceAdd, Nat.reduceLeDiff, true_and, and_true, Nat.le_refl, true_implies, forall_const, not_false_eq_true, false_implies, not_true_eq_false, reduceCtorEq, tl_s, tl_n, rf_s, true_or, or_true, q1.1]
      refine Stroke_put_c hs (by rw [hr]; omega) (fun h2 c2 hs2 => ?_)
      obtain ⟨f2, r1, r2, r3⟩ := id hs2
      refine B_Stroke_turnRound_30 ?_
      simp only [wp_cons, wp_nil, List.getElem?_cons_zero, List.getElem?_cons_succ, List.set_cons_zero, List.set_cons_succ, s_aload_n0, ldA_r, ldA_n, ldA_s, s_iload_n2, ldI_s, s_iload_n3, s_invokevirtual, rc_s, ob_s, List.drop_succ_cons, List.drop_zero, List.take_succ_cons, List.take_zero, List.reverse_cons, List.reverse_nil, List.nil_append, List.cons_append, List.length_cons, List.length_nil, d1, Int.reduceToNat, Nat.reduceAdd, Nat.reduceLeDiff, true_and, and_true, Nat.le_refl, true_implies, forall_const, not_false_eq_true, false_implies, not_true_eq_false, reduceCtorEq, tl_s, tl_n, rf_s, true_or, or_true, r1.1]
      refine Stroke_put_c hs2 (by rw [List.length_set, hr]; omega) (fun h3 c3 hs3 => ?_)
      refine B_Stroke_turnRound_36 ?_
      simp only [wp_cons, wp_nil, List.getElem?_cons_zero, List.getElem?_cons_succ, List.set_cons_zero, List.set_cons_succ, s_iinc, ldI_s, s1_0, s1_s, kx_i, kx_r, kx_s, kx_n, kx_l, kx_0, I_add, s_goto, true_and, and_true, Nat.le_refl, true_implies, forall_const, not_false_eq_true, false_implies, not_true_eq_false, reduceCtorEq, tl_s, tl_n, rf_s, List.cons_append, List.nil_append, true_or, or_true]
      rw [show ((j : Int) + -1) = ((j - 1 : Nat) : Int) by omega]
      refine ih (i + 1) (j - 1) h3 _ _ (by omega) (by omega) (by rw [List.length_set, List.length_set, hr]) hs3 (fun k hk2 => ?_) ((c.tr c2).tr c3)
      exact rv_step (l := S.1) hij (by omega) hr hk k hk2
theorem Stroke_turnRound_c {d s : Nat} (d1 : 1 ≤ d) {S : Stk} {h : g_H} {Q : g_Po} (hs : stL h s S) (hl : 0 < S.1.length) (hQ : ∀ h', chg s (s + 2) h h' → stL h' s (S.1.reverse, S.2) → Q none h') : Call Stroke_turnRound d 0 0 [.ref s] h Q := by
  obtain ⟨f, q1, q2, q3⟩ := id hs
  refine Call.intro (by rfl) (Nat.le_of_ble_eq_true rfl) ?_
  refine G.eqL (L := [some (.ref _), none, none, none]) rfl ?_
  refine B_Stroke_turnRound_0 ?_
  simp only [wp_cons, wp_nil, List.getElem?_cons_zero, List.getElem?_cons_succ, List.set_cons_zero, List.set_cons_succ, s_iconst, s_istore_n1, p1_s, s1_0, s1_s, kx_i, kx_r, kx_s, kx_n, kx_l, kx_0, s_aload_n0, ldA_r, ldA_n, ldA_s, s_getfield, pR_s, ob_s, gt_s, s_isub, p2_s, I_sub, s_istore_n2, true_and, and_true, Nat.le_refl, true_implies, forall_const, not_false_eq_true, false_implies, not_true_eq_false, reduceCtorEq, tl_s, tl_n, rf_s, List.cons_append, List.nil_append, true_or, or_true, q1.1]
  rw [show ((S.1.length : Int) - 1) = ((S.1.length - 1 : Nat) : Int) by omega]
  exact Stroke_turnRound_l d1 hl hQ S.1.length 0 (S.1.length - 1) h S.1 _ (by omega) (by omega) rfl hs (fun k hk => by rw [if_neg (by omega)]) chg.rf
/-- the first point from i on that is equal to the one before it; -6 if there is none -/
def rpt (l : List Int) (m i : Nat) : Int := match m with
  | 0 => -6
  | m + 1 => if pg l i = pg l (i - 1) then i else rpt l m (i + 1)
def rep (S : Stk) : Int := if rpt S.1 (S.1.length - 1) 1 = -6 then (if S.2 = true ∧ pg S.1 0 = pg S.1 (S.1.length - 1) then 0 else -6) else rpt S.1 (S.1.length - 1) 1
theorem rpt_rng (l : List Int) : ∀ m i, rpt l m i = -6 ∨ ((i : Int) ≤ rpt l m i ∧ rpt l m i < i + m) := by
  intro m
  induction m with
  | zero => intro i; exact Or.inl rfl
  | succ m ih =>
    intro i
    unfold rpt
    by_cases c : pg l i = pg l (i - 1)
    · rw [if_pos c]; right; omega
    · rw [if_neg c]
      rcases ih (i + 1) with h | h
      · exact Or.inl h
      · right; omega
def stP (l : List Int) : Prop := ∀ i, i < l.length → pt (pg l i)
theorem Stroke_rep_l {d s : Nat} (d2 : 2 ≤ d) {S : Stk} {h : g_H} {Q : g_Po} (hs : stL h s S) (hl : 0 < S.1.length) (hp : stP S.1) (hQ : Q (some (.int (I (rep S)))) h) : ∀ (m i : Nat), 1 ≤ i → i + m = S.1.length → rpt S.1 (S.1.length - 1) 1 = rpt S.1 m i →
    G Stroke_repeatedPoint d 0 0 0 0 2 [some (.ref s), some (.int (I (i : Int)))] [] h Q := by
  have d1 : 1 ≤ d := by omega
  obtain ⟨f, q1, q2, q3⟩ := id hs
  have hz := sz_bd S.2
  intro m
  induction m with
  | zero =>
    intro i h1 hi hr
    have hr' : rpt S.1 (S.1.length - 1) 1 = -6 := hr
    unfold rep at hQ
    rw [if_pos hr'] at hQ
    refine B_Stroke_repeatedPoint_2 ?_
    simp only [wp_cons, wp_nil, List.getElem?_cons_zero, List.getElem?_cons_succ, List.set_cons_zero, List.set_cons_succ, s_iload_n1, ldI_s, s_aload_n0, ldA_r, ldA_n, ldA_s, s_getfield, pR_s, ob_s, gt_s, s_if_icmp_ge, p2_s, true_and, and_true, Nat.le_refl, true_implies, forall_const, not_false_eq_true, false_implies, not_true_eq_false, reduceCtorEq, tl_s, tl_n, rf_s, List.cons_append, List.nil_append, true_or, or_true, q1.1]
    refine b_le (by omega) (by omega) (fun c1 => ?_) (fun c1 => absurd c1 (by omega))
    refine B_Stroke_repeatedPoint_33 ?_
    simp only [wp_cons, wp_nil, List.getElem?_cons_zero, List.getElem?_cons_succ, List.set_cons_zero, List.set_cons_succ, s_aload_n0, ldA_r, ldA_n, ldA_s, s_getfield, pR_s, ob_s, gt_s, s_ifCond_eq, p1_s, true_and, and_true, Nat.le_refl, true_implies, forall_const, not_false_eq_true, false_implies, not_true_eq_false, reduceCtorEq, tl_s, tl_n, rf_s, List.cons_append, List.nil_append, true_or, or_true, q1.1]
    refine b_eq (by omega) (by omega) (fun c => ?_) (fun c => ?_)
    · rw [if_neg (by intro q; simp [sz, q.1] at c)] at hQ
      refine B_Stroke_repeatedPoint_55 ?_
      simp only [wp_cons, wp_nil, List.getElem?_cons_zero, List.getElem?_cons_succ, List.set_cons_zero, List.set_cons_succ, s_bipush, true_and, and_true, Nat.le_refl, true_implies, forall_const, not_false_eq_true, false_implies, not_true_eq_false, reduceCtorEq, tl_s, tl_n, rf_s, List.cons_append, List.nil_append, true_or, or_true]
      refine B_Stroke_repeatedPoint_57 ?_
      simp only [wp_cons, wp_nil, List.getElem?_cons_zero, List.getElem?_cons_succ, List.set_cons_zero, List.set_cons_succ, s_ireturn, p1_s, rI_i, rI_z, rI_c, z_01, z_11, rt_Stroke_repeatedPoint, true_and, and_true, Nat.le_refl, true_implies, forall_const, not_false_eq_true, false_implies, not_true_eq_false, reduceCtorEq, tl_s, tl_n, rf_s, List.cons_append, List.nil_append, true_or, or_true]
      exact hQ
    · have hzt : S.2 = true := by cases hq : S.2 <;> simp [sz, hq] at c ⊢
      refine B_Stroke_repeatedPoint_40 ?_
      simp only [wp_cons, wp_nil, List.getElem?_cons_zero, List.getElem?_cons_succ, List.set_cons_zero, List.set_cons_succ, s_aload_n0, ldA_r, ldA_n, ldA_s, s_invokevirtual, rc_s, ob_s, List.drop_succ_cons, List.drop_zero, List.take_succ_cons, List.take_zero, List.reverse_cons, List.reverse_nil, List.nil_append, List.cons_append, List.length_cons, List.length_nil, d1, Int.reduceToNat, Nat.reduceAdd, Nat.reduceLeDiff, true_and, and_true, Nat.le_refl, true_implies, forall_const, not_false_eq_true, false_implies, not_true_eq_false, reduceCtorEq, tl_s, tl_n, rf_s, true_or, or_true, q1.1]
      refine Stroke_first_c (by omega) hs hl ?_
      refine B_Stroke_repeatedPoint_44 ?_
      simp only [wp_cons, wp_nil, List.getElem?_cons_zero, List.getElem?_cons_succ, List.set_cons_zero, List.set_cons_succ, s_aload_n0, ldA_r, ldA_n, ldA_s, s_invokevirtual, rc_s, ob_s, List.drop_succ_cons, List.drop_zero, List.take_succ_cons, List.take_zero, List.reverse_cons, List.reverse_nil, List.nil_append, List.cons_append, List.length_cons, List.length_nil, d1, Int.reduceToNat, Nat.reduceAdd, Nat.reduceLeDiff, true_and, and_true, Nat.le_refl, true_implies, forall_const, not_false_eq_true, false_implies, not_true_eq_false, reduceCtorEq, tl_s, tl_n, rf_s, true_or, or_true, q1.1]
      refine Stroke_last_c (by omega) hs hl ?_
      have b1 := hp 0 hl
      have b2 := hp (S.1.length - 1) (by omega)
      refine B_Stroke_repeatedPoint_48 ?_
      simp only [wp_cons, wp_nil, List.getElem?_cons_zero, List.getElem?_cons_succ, List.set_cons_zero, List.set_cons_succ, s_if_icmp_ne, p2_s, true_and, and_true, Nat.le_refl, true_implies, forall_const, not_false_eq_true, false_implies, not_true_eq_false, reduceCtorEq, tl_s, tl_n, rf_s, List.cons_append, List.nil_append, true_or, or_true]
      refine b_ne (by omega) (by omega) (fun c => ?_) (fun c => ?_)
      · rw [if_neg (fun q => c q.2)] at hQ
        refine B_Stroke_repeatedPoint_55 ?_
        simp only [wp_cons, wp_nil, List.getElem?_cons_zero, List.getElem?_cons_succ, List.set_cons_zero, List.set_cons_succ, s_bipush, true_and, and_true, Nat.le_refl, true_implies, forall_const, not_false_eq_true, false_implies, not_true_eq_false, reduceCtorEq, tl_s, tl_n, rf_s, List.cons_append, List.nil_append, true_or, or_true]
        refine B_Stroke_repeatedPoint_57 ?_
        simp only [wp_cons, wp_nil, List.getElem?_cons_zero, List.getElem?_cons_succ, List.set_cons_zero, List.set_cons_succ, s_ireturn, p1_s, rI_i, rI_z, rI_c, z_01, z_11, rt_Stroke_repeatedPoint, true_and, and_true, Nat.le_refl, true_implies, forall_const, not_false_eq_true, false_implies, not_true_eq_false, reduceCtorEq, tl_s, tl_n, rf_s, List.cons_append, List.nil_append, true_or, or_true]
        exact hQ
      · rw [if_pos ⟨hzt, c⟩] at hQ
        refine B_Stroke_repeatedPoint_51 ?_
        simp only [wp_cons, wp_nil, List.getElem?_cons_zero, List.getElem?_cons_succ, List.set_cons_zero, List.set_cons_succ, s_iconst, s_goto, true_and, and_true, Nat.le_refl, true_implies, forall_const, not_false_eq_true, false_implies, not_true_eq_false, reduceCtorEq, tl_s, tl_n, rf_s, List.cons_append, List.nil_append, true_or, or_true]
        refine B_Stroke_repeatedPoint_57 ?_
        simp only [wp_cons, wp_nil, List.getElem?_cons_zero, List.getElem?_cons_succ, List.set_cons_zero, List.set_cons_succ, s_ireturn, p1_s, rI_i, rI_z, rI_c, z_01, z_11, rt_Stroke_repeatedPoint, true_and, and_true, Nat.le_refl, true_implies, forall_const, not_false_eq_true, false_implies, not_true_eq_false, reduceCtorEq, tl_s, tl_n, rf_s, List.cons_append, List.nil_append, true_or, or_true]
        exact hQ
  | succ m ih =>
    intro i h1 hi hr
    have b1 := hp i (by omega)
    have b2 := hp (i - 1) (by omega)
    refine B_Stroke_repeatedPoint_2 ?_
    simp only [wp_cons, wp_nil, List.getElem?_cons_zero, List.getElem?_cons_succ, List.set_cons_zero, List.set_cons_succ, s_iload_n1, ldI_s, s_aload_n0, ldA_r, ldA_n, ldA_s, s_getfield, pR_s, ob_s, gt_s, s_if_icmp_ge, p2_s, true_and, and_true, Nat.le_refl, true_implies, forall_const, not_false_eq_true, false_implies, not_true_eq_false, reduceCtorEq, tl_s, tl_n, rf_s, List.cons_append, List.nil_append, true_or, or_true, q1.1]
    refine b_le (by omega) (by omega) (fun c1 => absurd c1 (by omega)) (fun c1 => ?_)
    refine B_Stroke_repeatedPoint_10 ?_
    simp only [wp_cons, wp_nil, List.getElem?_cons_zero, List.getElem?_cons_succ, List.set_cons_zero, List.set_cons_succ, s_aload_n0, ldA_r, ldA_n, ldA_s, s_iload_n1, ldI_s, s_invokevirtual, rc_s, ob_s, List.drop_succ_cons, List.drop_zero, List.take_succ_cons, List.take_zero, List.reverse_cons, List.reverse_nil, List.nil_append, List.cons_append, List.length_cons, List.length_nil, d1, Int.reduceToNat, Nat.reduceAdd, Nat.reduceLeDiff, true_and, and_true, Nat.le_refl, true_implies, forall_const, not_false_eq_true, false_implies, not_true_eq_false, reduceCtorEq, tl_s, tl_n, rf_s, true_or, or_true, q1.1]
    refine Stroke_at_c hs (by omega) ?_
    refine B_Stroke_repeatedPoint_15 ?_
    simp only [wp_cons, wp_nil, List.getElem?_cons_zero, List.getElem?_cons_succ, List.set_cons_zero, List.set_cons_succ, s_aload_n0, ldA_r, ldA_n, ldA_s, s_iload_n1, ldI_s, s_iconst, s_isub, p2_s, I_sub, s_invokevirtual, rc_s, ob_s, List.drop_succ_cons, List.drop_zero, List.take_succ_cons, List.take_zero, List.reverse_cons, List.reverse_nil, List.nil_append, List.cons_append, List.length_cons, List.length_nil, d1, Int.reduceToNat, Nat.reduceAdd, Nat.reduceLeDiff, true_and, and_true, Nat.le_refl, true_implies, forall_const, not_false_eq_true, false_implies, not_true_eq_false, reduceCtorEq, tl_s, tl_n, rf_s, true_or, or_true, q1.1]
    rw [show ((i : Int) - 1) = ((i - 1 : Nat) : Int) by omega]
    refine Stroke_at_c hs (by omega) ?_
    refine B_Stroke_repeatedPoint_22 ?_
    simp only [wp_cons, wp_nil, List.getElem?_cons_zero, List.getElem?_cons_succ, List.set_cons_zero, List.set_cons_succ, s_if_icmp_ne, p2_s, true_and, and_true, Nat.le_refl, true_implies, forall_const, not_false_eq_true, false_implies, not_true_eq_false, reduceCtorEq, tl_s, tl_n, rf_s, List.cons_append, List.nil_append, true_or, or_true]
    refine b_ne (by omega) (by omega) (fun c => ?_) (fun c => ?_)
    · refine B_Stroke_repeatedPoint_27 ?_
      simp only [wp_cons, wp_nil, List.getElem?_cons_zero, List.getElem?_cons_succ, List.set_cons_zero, List.set_cons_succ, s_iinc, ldI_s, s1_0, s1_s, kx_i, kx_r, kx_s, kx_n, kx_l, kx_0, I_add, s_goto, true_and, and_true, Nat.le_refl, true_implies, forall_const, not_false_eq_true, false_implies, not_true_eq_false, reduceCtorEq, tl_s, tl_n, rf_s, List.cons_append, List.nil_append, true_or, or_true]
      refine ih (i + 1) (by omega) (by omega) ?_
      rw [hr]
      exact if_neg c
    · refine B_Stroke_repeatedPoint_25 ?_
      simp only [wp_cons, wp_nil, List.getElem?_cons_zero, List.getElem?_cons_succ, List.set_cons_zero, List.set_cons_succ, s_iload_n1, ldI_s, s_ireturn, p1_s, rI_i, rI_z, rI_c, z_01, z_11, rt_Stroke_repeatedPoint, true_and, and_true, Nat.le_refl, true_implies, forall_const, not_false_eq_true, false_implies, not_true_eq_false, reduceCtorEq, tl_s, tl_n, rf_s, List.cons_append, List.nil_append, true_or, or_true]
      have hr2 : rpt S.1 (S.1.length - 1) 1 = i := hr.trans (if_pos c)
      unfold rep at hQ
      rw [hr2, if_neg (by omega)] at hQ
      exact hQ
theorem Stroke_rep_c {d s : Nat} (d2 : 2 ≤ d) {S : Stk} {h : g_H} {Q : g_Po} (hs : stL h s S) (hl : 0 < S.1.length) (hp : stP S.1) (hQ : Q (some (.int (I (rep S)))) h) : Call Stroke_repeatedPoint d 0 0 [.ref s] h Q := by
  refine Call.intro (by rfl) (Nat.le_of_ble_eq_true rfl) ?_
  refine G.eqL (L := [some (.ref _), none]) rfl ?_
  refine B_Stroke_repeatedPoint_0 ?_
  simp only [wp_cons, wp_nil, List.getElem?_cons_zero, List.getElem?_cons_succ, List.set_cons_zero, List.set_cons_succ, s_iconst, s_istore_n1, p1_s, s1_0, s1_s, kx_i, kx_r, kx_s, kx_n, kx_l, kx_0, true_and, and_true, Nat.le_refl, true_implies, forall_const, not_false_eq_true, false_implies, not_true_eq_false, reduceCtorEq, tl_s, tl_n, rf_s, List.cons_append, List.nil_append, true_or, or_true]
  exact Stroke_rep_l d2 hs hl hp hQ (S.1.length - 1) 1 (by omega) (by omega) rfl
