/-! ===== a drawing's cells ===== -/
def sg (l : List Stk) (i : Nat) : Stk := l.getD i ([], false)
theorem sg_set (l : List Stk) (j : Nat) (p : Stk) (hj : j < l.length) (i : Nat) : sg (l.set j p) i = if i = j then p else sg l i := by
  unfold sg
  by_cases h : i = j
  · subst h; simp [List.getD_eq_getElem?_getD, hj]
  · rw [if_neg h, List.getD_eq_getElem?_getD, List.getD_eq_getElem?_getD, List.getElem?_set_ne (fun q => h q.symm)]
theorem sg_app_l (l r : List Stk) {i : Nat} (h : i < l.length) : sg (l ++ r) i = sg l i := by
  unfold sg
  rw [List.getD_eq_getElem?_getD, List.getD_eq_getElem?_getD, List.getElem?_append_left h]
theorem sg_app_r (l r : List Stk) {i : Nat} (h : l.length ≤ i) : sg (l ++ r) i = sg r (i - l.length) := by
  unfold sg
  rw [List.getD_eq_getElem?_getD, List.getD_eq_getElem?_getD, List.getElem?_append_right h]
theorem sg_take (l : List Stk) {i m : Nat} (h : i < m) : sg (l.take m) i = sg l i := by
  unfold sg
  rw [List.getD_eq_getElem?_getD, List.getD_eq_getElem?_getD, List.getElem?_take_of_lt h]
theorem sg_erase (l : List Stk) (i k : Nat) : sg (l.eraseIdx i) k = if k < i then sg l k else sg l (k + 1) := by
  unfold sg
  rw [List.getD_eq_getElem?_getD, List.getElem?_eraseIdx]
  split <;> rw [List.getD_eq_getElem?_getD]
theorem sg_ext {l r : List Stk} (hl : l.length = r.length) (h : ∀ i, i < l.length → sg l i = sg r i) : l = r := by
  apply List.ext_getElem hl
  intro i h1 h2
  have := h i h1
  unfold sg at this
  simpa [List.getD_eq_getElem?_getD, h1, h2] using this
def drw (h : g_H) (d : Nat) (σ : Nat → Nat) (Ss : List Stk) (pn : Stk) : Prop :=
  Ss.length ≤ 10 ∧ h[d]? = some (.inr (.inr (0, [.ref (d + 1), .ref (d + 2), .int (I (Ss.length : Int))]))) ∧ (∃ f : Nat → Option Nat, h[d + 1]? = some (.inr (.inl (2, 10, f))) ∧ ∀ i, i < 10 → f i = some (σ i)) ∧ stL h (d + 2) pn ∧ (∀ i, i < 10 → d + 4 ≤ σ i ∧ σ i + 2 ≤ d + 24) ∧ (∀ i j, i < 10 → j < 10 → i ≠ j → σ i + 2 ≤ σ j ∨ σ j + 2 ≤ σ i) ∧ (∀ i, i < 10 → stX h (σ i)) ∧ ∀ i, i < Ss.length → stL h (σ i) (sg Ss i)
def drL (h : g_H) (d : Nat) (Ss : List Stk) (pn : Stk) : Prop := ∃ σ, drw h d σ Ss pn
def drX (h : g_H) (d : Nat) : Prop := ∃ σ Ss pn, drw h d σ Ss pn
theorem drw.kp {h h' : g_H} {d lo hi : Nat} {σ : Nat → Nat} {Ss : List Stk} {pn : Stk} (a : drw h d σ Ss pn) (c : chg lo hi h h') (ho : d + 24 ≤ lo ∨ hi ≤ d) : drw h' d σ Ss pn := by
  obtain ⟨a1, a2, ⟨f, a3, a4⟩, a5, a6, a7, a8, a9⟩ := a
  exact ⟨a1, (c.at (by omega)).trans a2, ⟨f, (c.at (by omega)).trans a3, a4⟩, a5.kp c (by omega), a6, a7, fun i hi => (a8 i hi).kp c (by have := a6 i hi; omega), fun i hi => (a9 i hi).kp c (by have := a6 i (by omega); omega)⟩
theorem drL.kp {h h' : g_H} {d lo hi : Nat} {Ss : List Stk} {pn : Stk} (a : drL h d Ss pn) (c : chg lo hi h h') (ho : d + 24 ≤ lo ∨ hi ≤ d) : drL h' d Ss pn := by
  obtain ⟨σ, a⟩ := a
  exact ⟨σ, a.kp c ho⟩
theorem drX.kp {h h' : g_H} {d lo hi : Nat} (a : drX h d) (c : chg lo hi h h') (ho : d + 24 ≤ lo ∨ hi ≤ d) : drX h' d := by
  obtain ⟨σ, _, _, a⟩ := a
  exact ⟨σ, _, _, a.kp c ho⟩
theorem drL.x {h : g_H} {d : Nat} {Ss : List Stk} {pn : Stk} (a : drL h d Ss pn) : drX h d := by
  obtain ⟨σ, a⟩ := a
  exact ⟨σ, _, _, a⟩
theorem drw.len {h : g_H} {d : Nat} {σ : Nat → Nat} {Ss : List Stk} {pn : Stk} (a : drw h d σ Ss pn) : Ss.length ≤ 10 := a.1
theorem drw.st {h : g_H} {d i : Nat} {σ : Nat → Nat} {Ss : List Stk} {pn : Stk} (a : drw h d σ Ss pn) (hi : i < Ss.length) : stL h (σ i) (sg Ss i) := a.2.2.2.2.2.2.2 i hi
theorem drw.pn {h : g_H} {d : Nat} {σ : Nat → Nat} {Ss : List Stk} {pn : Stk} (a : drw h d σ Ss pn) : stL h (d + 2) pn := a.2.2.2.1
theorem drw.sl {h : g_H} {d i : Nat} {σ : Nat → Nat} {Ss : List Stk} {pn : Stk} (a : drw h d σ Ss pn) (hi : i < 10) : d + 4 ≤ σ i ∧ σ i + 2 ≤ d + 24 := a.2.2.2.2.1 i hi
theorem drw.ap {h : g_H} {d i j : Nat} {σ : Nat → Nat} {Ss : List Stk} {pn : Stk} (a : drw h d σ Ss pn) (hi : i < 10) (hj : j < 10) (hij : i ≠ j) : σ i + 2 ≤ σ j ∨ σ j + 2 ≤ σ i := a.2.2.2.2.2.1 i j hi hj hij
/-- one of its strokes is another one -/
theorem drw.up {h h' : g_H} {d i : Nat} {σ : Nat → Nat} {Ss : List Stk} {pn S : Stk} (a : drw h d σ Ss pn) (hi : i < Ss.length) (c : chg (σ i) (σ i + 2) h h') (hS : stL h' (σ i) S) : drw h' d σ (Ss.set i S) pn := by
  obtain ⟨a1, a2, ⟨f, a3, a4⟩, a5, a6, a7, a8, a9⟩ := a
  have hs := a6 i (by omega)
  refine ⟨by simpa using a1, (c.at (by omega)).trans (by simpa using a2), ⟨f, (c.at (by omega)).trans a3, a4⟩, a5.kp c (by omega), a6, a7, fun j hj => ?_, fun j hj => ?_⟩
  · by_cases e : j = i
    · rw [e]; exact hS.x
    · exact (a8 j hj).kp c (by have := a7 j i hj (by omega) e; omega)
  · rw [List.length_set] at hj
    rw [sg_set _ _ _ hi]
    by_cases e : j = i
    · rw [if_pos e, e]; exact hS
    · rw [if_neg e]; exact (a9 j hj).kp c (by have := a7 j i (by omega) (by omega) e; omega)
theorem drw.upn {h h' : g_H} {d : Nat} {σ : Nat → Nat} {Ss : List Stk} {pn S : Stk} (a : drw h d σ Ss pn) (c : chg (d + 2) (d + 4) h h') (hS : stL h' (d + 2) S) : drw h' d σ Ss S := by
  obtain ⟨a1, a2, ⟨f, a3, a4⟩, a5, a6, a7, a8, a9⟩ := a
  exact ⟨a1, (c.at (by omega)).trans a2, ⟨f, (c.at (by omega)).trans a3, a4⟩, hS, a6, a7, fun i hi => (a8 i hi).kp c (by have := a6 i hi; omega), fun i hi => (a9 i hi).kp c (by have := a6 i (by omega); omega)⟩
/-! blocks of Drawing_init -/
theorem ml_Drawing_init : (g_m Drawing_init).2.2.1 = 2 := rfl
theorem rt_Drawing_init : (g_m Drawing_init).2.2.2.1 = none := rfl
theorem B_Drawing_init_0 {d mc ms cs ss : Nat} {L : List (Option Value)} {st : List Value} {h : g_H} {Q : g_Po} (hw : g_wp Drawing_init d mc ms Q 21 [(0, 1, 0, 0, 0, 0, .aload_n 0), (1, 3, 9999, 0, 1026, 0, .invokespecial 3), (4, 1, 0, 0, 0, 0, .aload_n 0), (5, 2, 0, 0, 0, 10, .bipush 10), (7, 3, 2, 10, 1027, 1028, .anewarray 9), (10, 3, 0, 0, 1055, 12, .putfield 11), (13, 1, 0, 0, 0, 0, .aload_n 0), (14, 3, 2, 3, 1027, 0, .new 9), (17, 1, 0, 0, 0, 0, .dup), (18, 3, 32, 0, 1030, 0, .invokespecial 17)] cs ss L st h) : G Drawing_init d mc ms cs ss 0 L st h Q := G.run (by decide +kernel) hw
theorem B_Drawing_init_21 {d mc ms cs ss : Nat} {L : List (Option Value)} {st : List Value} {h : g_H} {Q : g_Po} (hw : g_wp Drawing_init d mc ms Q 26 [(21, 3, 0, 1, 1056, 12, .putfield 18), (24, 1, 0, 0, 0, 0, .iconst 0), (25, 1, 0, 0, 0, 0, .istore_n 1)] cs ss L st h) : G Drawing_init d mc ms cs ss 21 L st h Q := G.run (by decide +kernel) hw
theorem B_Drawing_init_26 {d mc ms cs ss : Nat} {L : List (Option Value)} {st : List Value} {h : g_H} {Q : g_Po} (hw : g_wp Drawing_init d mc ms Q 35 [(26, 1, 0, 0, 0, 0, .iload_n 1), (27, 1, 0, 0, 0, 0, .aload_n 0), (28, 3, 0, 0, 1055, 2, .getfield 11), (31, 1, 0, 0, 0, 0, .arraylength), (32, 3, 54, 0, 0, 0, .if_icmp .ge 22)] cs ss L st h) : G Drawing_init d mc ms cs ss 26 L st h Q := G.run (by decide +kernel) hw
theorem B_Drawing_init_35 {d mc ms cs ss : Nat} {L : List (Option Value)} {st : List Value} {h : g_H} {Q : g_Po} (hw : g_wp Drawing_init d mc ms Q 47 [(35, 1, 0, 0, 0, 0, .aload_n 0), (36, 3, 0, 0, 1055, 2, .getfield 11), (39, 1, 0, 0, 0, 0, .iload_n 1), (40, 3, 2, 3, 1027, 0, .new 9), (43, 1, 0, 0, 0, 0, .dup), (44, 3, 32, 0, 1030, 0, .invokespecial 17)] cs ss L st h) : G Drawing_init d mc ms cs ss 35 L st h Q := G.run (by decide +kernel) hw
theorem B_Drawing_init_47 {d mc ms cs ss : Nat} {L : List (Option Value)} {st : List Value} {h : g_H} {Q : g_Po} (hw : g_wp Drawing_init d mc ms Q 54 [(47, 1, 0, 0, 0, 0, .aastore), (48, 3, 0, 0, 0, 1, .iinc 1 1), (51, 3, 26, 0, 0, 0, .goto (-25))] cs ss L st h) : G Drawing_init d mc ms cs ss 47 L st h Q := G.run (by decide +kernel) hw
theorem B_Drawing_init_54 {d mc ms cs ss : Nat} {L : List (Option Value)} {st : List Value} {h : g_H} {Q : g_Po} (hw : g_wp Drawing_init d mc ms Q 55 [(54, 1, 0, 0, 0, 0, .return_)] cs ss L st h) : G Drawing_init d mc ms cs ss 54 L st h Q := G.run (by decide +kernel) hw
/-! blocks of Drawing_find -/
theorem ml_Drawing_find : (g_m Drawing_find).2.2.1 = 2 := rfl
theorem rt_Drawing_find : (g_m Drawing_find).2.2.2.1 = (some (.object "VectorPens$Stroke")) := rfl
theorem B_Drawing_find_0 {d mc ms cs ss : Nat} {L : List (Option Value)} {st : List Value} {h : g_H} {Q : g_Po} (hw : g_wp Drawing_find d mc ms Q 4 [(0, 1, 0, 0, 0, 0, .iload_n 1), (1, 3, 30, 0, 0, 0, .ifCond .lt 29)] cs ss L st h) : G Drawing_find d mc ms cs ss 0 L st h Q := G.run (by decide +kernel) hw
theorem B_Drawing_find_4 {d mc ms cs ss : Nat} {L : List (Option Value)} {st : List Value} {h : g_H} {Q : g_Po} (hw : g_wp Drawing_find d mc ms Q 12 [(4, 1, 0, 0, 0, 0, .iload_n 1), (5, 1, 0, 0, 0, 0, .aload_n 0), (6, 3, 0, 2, 1058, 0, .getfield 22), (9, 3, 30, 0, 0, 0, .if_icmp .ge 21)] cs ss L st h) : G Drawing_find d mc ms cs ss 4 L st h Q := G.run (by decide +kernel) hw
theorem B_Drawing_find_12 {d mc ms cs ss : Nat} {L : List (Option Value)} {st : List Value} {h : g_H} {Q : g_Po} (hw : g_wp Drawing_find d mc ms Q 21 [(12, 1, 0, 0, 0, 0, .iload_n 1), (13, 1, 0, 0, 0, 0, .aload_n 0), (14, 3, 0, 0, 1055, 2, .getfield 11), (17, 1, 0, 0, 0, 0, .arraylength), (18, 3, 30, 0, 0, 0, .if_icmp .ge 12)] cs ss L st h) : G Drawing_find d mc ms cs ss 12 L st h Q := G.run (by decide +kernel) hw
theorem B_Drawing_find_21 {d mc ms cs ss : Nat} {L : List (Option Value)} {st : List Value} {h : g_H} {Q : g_Po} (hw : g_wp Drawing_find d mc ms Q 30 [(21, 1, 0, 0, 0, 0, .aload_n 0), (22, 3, 0, 0, 1055, 2, .getfield 11), (25, 1, 0, 0, 0, 0, .iload_n 1), (26, 1, 0, 0, 0, 0, .aaload), (27, 3, 31, 0, 0, 0, .goto 4)] cs ss L st h) : G Drawing_find d mc ms cs ss 21 L st h Q := G.run (by decide +kernel) hw
theorem B_Drawing_find_30 {d mc ms cs ss : Nat} {L : List (Option Value)} {st : List Value} {h : g_H} {Q : g_Po} (hw : g_wp Drawing_find d mc ms Q 31 [(30, 1, 0, 0, 0, 0, .aconst_null)] cs ss L st h) : G Drawing_find d mc ms cs ss 30 L st h Q := G.run (by decide +kernel) hw
theorem B_Drawing_find_31 {d mc ms cs ss : Nat} {L : List (Option Value)} {st : List Value} {h : g_H} {Q : g_Po} (hw : g_wp Drawing_find d mc ms Q 32 [(31, 1, 0, 0, 0, 0, .areturn)] cs ss L st h) : G Drawing_find d mc ms cs ss 31 L st h Q := G.run (by decide +kernel) hw
/-! blocks of Drawing_append -/
theorem ml_Drawing_append : (g_m Drawing_append).2.2.1 = 3 := rfl
theorem rt_Drawing_append : (g_m Drawing_append).2.2.2.1 = none := rfl
theorem B_Drawing_append_0 {d mc ms cs ss : Nat} {L : List (Option Value)} {st : List Value} {h : g_H} {Q : g_Po} (hw : g_wp Drawing_append d mc ms Q 7 [(0, 1, 0, 0, 0, 0, .aload_n 0), (1, 3, 0, 2, 1058, 0, .getfield 22), (4, 3, 19, 0, 0, 0, .ifCond .lt 15)] cs ss L st h) : G Drawing_append d mc ms cs ss 0 L st h Q := G.run (by decide +kernel) hw
theorem B_Drawing_append_7 {d mc ms cs ss : Nat} {L : List (Option Value)} {st : List Value} {h : g_H} {Q : g_Po} (hw : g_wp Drawing_append d mc ms Q 19 [(7, 1, 0, 0, 0, 0, .aload_n 0), (8, 3, 0, 2, 1058, 0, .getfield 22), (11, 1, 0, 0, 0, 0, .aload_n 0), (12, 3, 0, 0, 1055, 2, .getfield 11), (15, 1, 0, 0, 0, 0, .arraylength), (16, 3, 20, 0, 0, 0, .if_icmp .lt 4)] cs ss L st h) : G Drawing_append d mc ms cs ss 7 L st h Q := G.run (by decide +kernel) hw
theorem B_Drawing_append_19 {d mc ms cs ss : Nat} {L : List (Option Value)} {st : List Value} {h : g_H} {Q : g_Po} (hw : g_wp Drawing_append d mc ms Q 20 [(19, 1, 0, 0, 0, 0, .return_)] cs ss L st h) : G Drawing_append d mc ms cs ss 19 L st h Q := G.run (by decide +kernel) hw
theorem B_Drawing_append_20 {d mc ms cs ss : Nat} {L : List (Option Value)} {st : List Value} {h : g_H} {Q : g_Po} (hw : g_wp Drawing_append d mc ms Q 34 [(20, 1, 0, 0, 0, 0, .aload_n 0), (21, 3, 0, 0, 1055, 2, .getfield 11), (24, 1, 0, 0, 0, 0, .aload_n 0), (25, 3, 0, 2, 1058, 0, .getfield 22), (28, 1, 0, 0, 0, 0, .aaload), (29, 1, 0, 0, 0, 0, .astore_n 2), (30, 1, 0, 0, 0, 0, .aload_n 2), (31, 3, 49, 0, 0, 0, .ifnull 18)] cs ss L st h) : G Drawing_append d mc ms cs ss 20 L st h Q := G.run (by decide +kernel) hw
theorem B_Drawing_append_34 {d mc ms cs ss : Nat} {L : List (Option Value)} {st : List Value} {h : g_H} {Q : g_Po} (hw : g_wp Drawing_append d mc ms Q 39 [(34, 1, 0, 0, 0, 0, .aload_n 2), (35, 1, 0, 0, 0, 0, .aload_n 1), (36, 3, 38, 2, 1195, 1, .invokevirtual 26)] cs ss L st h) : G Drawing_append d mc ms cs ss 34 L st h Q := G.run (by decide +kernel) hw
theorem B_Drawing_append_39 {d mc ms cs ss : Nat} {L : List (Option Value)} {st : List Value} {h : g_H} {Q : g_Po} (hw : g_wp Drawing_append d mc ms Q 49 [(39, 1, 0, 0, 0, 0, .aload_n 0), (40, 1, 0, 0, 0, 0, .dup), (41, 3, 0, 2, 1058, 0, .getfield 22), (44, 1, 0, 0, 0, 1, .iconst 1), (45, 1, 0, 0, 0, 0, .iadd), (46, 3, 0, 2, 1058, 0, .putfield 22)] cs ss L st h) : G Drawing_append d mc ms cs ss 39 L st h Q := G.run (by decide +kernel) hw
theorem B_Drawing_append_49 {d mc ms cs ss : Nat} {L : List (Option Value)} {st : List Value} {h : g_H} {Q : g_Po} (hw : g_wp Drawing_append d mc ms Q 50 [(49, 1, 0, 0, 0, 0, .return_)] cs ss L st h) : G Drawing_append d mc ms cs ss 49 L st h Q := G.run (by decide +kernel) hw
/-! blocks of Drawing_bringLast -/
theorem ml_Drawing_bringLast : (g_m Drawing_bringLast).2.2.1 = 4 := rfl
theorem rt_Drawing_bringLast : (g_m Drawing_bringLast).2.2.2.1 = none := rfl
theorem B_Drawing_bringLast_0 {d mc ms cs ss : Nat} {L : List (Option Value)} {st : List Value} {h : g_H} {Q : g_Po} (hw : g_wp Drawing_bringLast d mc ms Q 5 [(0, 1, 0, 0, 0, 0, .aload_n 0), (1, 1, 0, 0, 0, 0, .iload_n 1), (2, 3, 1, 0, 1187, 1, .invokevirtual 30)] cs ss L st h) : G Drawing_bringLast d mc ms cs ss 0 L st h Q := G.run (by decide +kernel) hw
theorem B_Drawing_bringLast_5 {d mc ms cs ss : Nat} {L : List (Option Value)} {st : List Value} {h : g_H} {Q : g_Po} (hw : g_wp Drawing_bringLast d mc ms Q 10 [(5, 1, 0, 0, 0, 0, .astore_n 2), (6, 1, 0, 0, 0, 0, .aload_n 2), (7, 3, 11, 0, 0, 0, .ifnonnull 4)] cs ss L st h) : G Drawing_bringLast d mc ms cs ss 5 L st h Q := G.run (by decide +kernel) hw
theorem B_Drawing_bringLast_10 {d mc ms cs ss : Nat} {L : List (Option Value)} {st : List Value} {h : g_H} {Q : g_Po} (hw : g_wp Drawing_bringLast d mc ms Q 11 [(10, 1, 0, 0, 0, 0, .return_)] cs ss L st h) : G Drawing_bringLast d mc ms cs ss 10 L st h Q := G.run (by decide +kernel) hw
theorem B_Drawing_bringLast_11 {d mc ms cs ss : Nat} {L : List (Option Value)} {st : List Value} {h : g_H} {Q : g_Po} (hw : g_wp Drawing_bringLast d mc ms Q 13 [(11, 1, 0, 0, 0, 0, .iload_n 1), (12, 1, 0, 0, 0, 0, .istore_n 3)] cs ss L st h) : G Drawing_bringLast d mc ms cs ss 11 L st h Q := G.run (by decide +kernel) hw
theorem B_Drawing_bringLast_13 {d mc ms cs ss : Nat} {L : List (Option Value)} {st : List Value} {h : g_H} {Q : g_Po} (hw : g_wp Drawing_bringLast d mc ms Q 23 [(13, 1, 0, 0, 0, 0, .iload_n 3), (14, 1, 0, 0, 0, 1, .iconst 1), (15, 1, 0, 0, 0, 0, .iadd), (16, 1, 0, 0, 0, 0, .aload_n 0), (17, 3, 0, 2, 1058, 0, .getfield 22), (20, 3, 54, 0, 0, 0, .if_icmp .ge 34)] cs ss L st h) : G Drawing_bringLast d mc ms cs ss 13 L st h Q := G.run (by decide +kernel) hw
theorem B_Drawing_bringLast_23 {d mc ms cs ss : Nat} {L : List (Option Value)} {st : List Value} {h : g_H} {Q : g_Po} (hw : g_wp Drawing_bringLast d mc ms Q 34 [(23, 1, 0, 0, 0, 0, .iload_n 3), (24, 1, 0, 0, 0, 1, .iconst 1), (25, 1, 0, 0, 0, 0, .iadd), (26, 1, 0, 0, 0, 0, .aload_n 0), (27, 3, 0, 0, 1055, 2, .getfield 11), (30, 1, 0, 0, 0, 0, .arraylength), (31, 3, 54, 0, 0, 0, .if_icmp .ge 23)] cs ss L st h) : G Drawing_bringLast d mc ms cs ss 23 L st h Q := G.run (by decide +kernel) hw
theorem B_Drawing_bringLast_34 {d mc ms cs ss : Nat} {L : List (Option Value)} {st : List Value} {h : g_H} {Q : g_Po} (hw : g_wp Drawing_bringLast d mc ms Q 54 [(34, 1, 0, 0, 0, 0, .aload_n 0), (35, 3, 0, 0, 1055, 2, .getfield 11), (38, 1, 0, 0, 0, 0, .iload_n 3), (39, 1, 0, 0, 0, 0, .aload_n 0), (40, 3, 0, 0, 1055, 2, .getfield 11), (43, 1, 0, 0, 0, 0, .iload_n 3), (44, 1, 0, 0, 0, 1, .iconst 1), (45, 1, 0, 0, 0, 0, .iadd), (46, 1, 0, 0, 0, 0, .aaload), (47, 1, 0, 0, 0, 0, .aastore), (48, 3, 0, 0, 0, 1, .iinc 3 1), (51, 3, 13, 0, 0, 0, .goto (-38))] cs ss L st h) : G Drawing_bringLast d mc ms cs ss 34 L st h Q := G.run (by decide +kernel) hw
theorem B_Drawing_bringLast_54 {d mc ms cs ss : Nat} {L : List (Option Value)} {st : List Value} {h : g_H} {Q : g_Po} (hw : g_wp Drawing_bringLast d mc ms Q 75 [(54, 1, 0, 0, 0, 0, .aload_n 0), (55, 3, 0, 0, 1055, 2, .getfield 11), (58, 1, 0, 0, 0, 0, .aload_n 0), (59, 3, 0, 2, 1058, 0, .getfield 22), (62, 1, 0, 0, 0, 0, .aload_n 0), (63, 3, 0, 0, 1055, 2, .getfield 11), (66, 1, 0, 0, 0, 0, .arraylength), (67, 3, 9994, 0, 2047, 2, .invokestatic 34), (70, 1, 0, 0, 0, 1, .iconst 1), (71, 1, 0, 0, 0, 0, .isub), (72, 1, 0, 0, 0, 0, .aload_n 2), (73, 1, 0, 0, 0, 0, .aastore), (74, 1, 0, 0, 0, 0, .return_)] cs ss L st h) : G Drawing_bringLast d mc ms cs ss 54 L st h Q := G.run (by decide +kernel) hw
/-! blocks of Drawing_drop -/
theorem ml_Drawing_drop : (g_m Drawing_drop).2.2.1 = 2 := rfl
theorem rt_Drawing_drop : (g_m Drawing_drop).2.2.2.1 = none := rfl
theorem B_Drawing_drop_0 {d mc ms cs ss : Nat} {L : List (Option Value)} {st : List Value} {h : g_H} {Q : g_Po} (hw : g_wp Drawing_drop d mc ms Q 5 [(0, 1, 0, 0, 0, 0, .aload_n 0), (1, 1, 0, 0, 0, 0, .iload_n 1), (2, 3, 1, 0, 1187, 1, .invokevirtual 30)] cs ss L st h) : G Drawing_drop d mc ms cs ss 0 L st h Q := G.run (by decide +kernel) hw
theorem B_Drawing_drop_5 {d mc ms cs ss : Nat} {L : List (Option Value)} {st : List Value} {h : g_H} {Q : g_Po} (hw : g_wp Drawing_drop d mc ms Q 8 [(5, 3, 23, 0, 0, 0, .ifnull 18)] cs ss L st h) : G Drawing_drop d mc ms cs ss 5 L st h Q := G.run (by decide +kernel) hw
theorem B_Drawing_drop_8 {d mc ms cs ss : Nat} {L : List (Option Value)} {st : List Value} {h : g_H} {Q : g_Po} (hw : g_wp Drawing_drop d mc ms Q 13 [(8, 1, 0, 0, 0, 0, .aload_n 0), (9, 1, 0, 0, 0, 0, .iload_n 1), (10, 3, 3, 0, 2043, 1, .invokevirtual 40)] cs ss L st h) : G Drawing_drop d mc ms cs ss 8 L st h Q := G.run (by decide +kernel) hw
theorem B_Drawing_drop_13 {d mc ms cs ss : Nat} {L : List (Option Value)} {st : List Value} {h : g_H} {Q : g_Po} (hw : g_wp Drawing_drop d mc ms Q 23 [(13, 1, 0, 0, 0, 0, .aload_n 0), (14, 1, 0, 0, 0, 0, .dup), (15, 3, 0, 2, 1058, 0, .getfield 22), (18, 1, 0, 0, 0, 1, .iconst 1), (19, 1, 0, 0, 0, 0, .isub), (20, 3, 0, 2, 1058, 0, .putfield 22)] cs ss L st h) : G Drawing_drop d mc ms cs ss 13 L st h Q := G.run (by decide +kernel) hw
theorem B_Drawing_drop_23 {d mc ms cs ss : Nat} {L : List (Option Value)} {st : List Value} {h : g_H} {Q : g_Po} (hw : g_wp Drawing_drop d mc ms Q 24 [(23, 1, 0, 0, 0, 0, .return_)] cs ss L st h) : G Drawing_drop d mc ms cs ss 23 L st h Q := G.run (by decide +kernel) hw
/-! blocks of Drawing_copyFrom -/
theorem ml_Drawing_copyFrom : (g_m Drawing_copyFrom).2.2.1 = 4 := rfl
theorem rt_Drawing_copyFrom : (g_m Drawing_copyFrom).2.2.2.1 = none := rfl
theorem B_Drawing_copyFrom_0 {d mc ms cs ss : Nat} {L : List (Option Value)} {st : List Value} {h : g_H} {Q : g_Po} (hw : g_wp Drawing_copyFrom d mc ms Q 7 [(0, 1, 0, 0, 0, 0, .aload_n 0), (1, 1, 0, 0, 0, 0, .iconst 0), (2, 3, 0, 2, 1058, 0, .putfield 22), (5, 1, 0, 0, 0, 0, .iconst 0), (6, 1, 0, 0, 0, 0, .istore_n 2)] cs ss L st h) : G Drawing_copyFrom d mc ms cs ss 0 L st h Q := G.run (by decide +kernel) hw
theorem B_Drawing_copyFrom_7 {d mc ms cs ss : Nat} {L : List (Option Value)} {st : List Value} {h : g_H} {Q : g_Po} (hw : g_wp Drawing_copyFrom d mc ms Q 15 [(7, 1, 0, 0, 0, 0, .iload_n 2), (8, 1, 0, 0, 0, 0, .aload_n 1), (9, 3, 0, 2, 1058, 0, .getfield 22), (12, 3, 36, 0, 0, 0, .if_icmp .ge 24)] cs ss L st h) : G Drawing_copyFrom d mc ms cs ss 7 L st h Q := G.run (by decide +kernel) hw
theorem B_Drawing_copyFrom_15 {d mc ms cs ss : Nat} {L : List (Option Value)} {st : List Value} {h : g_H} {Q : g_Po} (hw : g_wp Drawing_copyFrom d mc ms Q 20 [(15, 1, 0, 0, 0, 0, .aload_n 1), (16, 1, 0, 0, 0, 0, .iload_n 2), (17, 3, 1, 0, 1187, 1, .invokevirtual 30)] cs ss L st h) : G Drawing_copyFrom d mc ms cs ss 15 L st h Q := G.run (by decide +kernel) hw
theorem B_Drawing_copyFrom_20 {d mc ms cs ss : Nat} {L : List (Option Value)} {st : List Value} {h : g_H} {Q : g_Po} (hw : g_wp Drawing_copyFrom d mc ms Q 25 [(20, 1, 0, 0, 0, 0, .astore_n 3), (21, 1, 0, 0, 0, 0, .aload_n 3), (22, 3, 30, 0, 0, 0, .ifnull 8)] cs ss L st h) : G Drawing_copyFrom d mc ms cs ss 20 L st h Q := G.run (by decide +kernel) hw
theorem B_Drawing_copyFrom_25 {d mc ms cs ss : Nat} {L : List (Option Value)} {st : List Value} {h : g_H} {Q : g_Po} (hw : g_wp Drawing_copyFrom d mc ms Q 30 [(25, 1, 0, 0, 0, 0, .aload_n 0), (26, 1, 0, 0, 0, 0, .aload_n 3), (27, 3, 2, 0, 1191, 1, .invokevirtual 44)] cs ss L st h) : G Drawing_copyFrom d mc ms cs ss 25 L st h Q := G.run (by decide +kernel) hw
theorem B_Drawing_copyFrom_30 {d mc ms cs ss : Nat} {L : List (Option Value)} {st : List Value} {h : g_H} {Q : g_Po} (hw : g_wp Drawing_copyFrom d mc ms Q 36 [(30, 3, 0, 0, 0, 1, .iinc 2 1), (33, 3, 7, 0, 0, 0, .goto (-26))] cs ss L st h) : G Drawing_copyFrom d mc ms cs ss 30 L st h Q := G.run (by decide +kernel) hw
theorem B_Drawing_copyFrom_36 {d mc ms cs ss : Nat} {L : List (Option Value)} {st : List Value} {h : g_H} {Q : g_Po} (hw : g_wp Drawing_copyFrom d mc ms Q 47 [(36, 1, 0, 0, 0, 0, .aload_n 0), (37, 3, 0, 1, 1056, 2, .getfield 18), (40, 1, 0, 0, 0, 0, .aload_n 1), (41, 3, 0, 1, 1056, 2, .getfield 18), (44, 3, 38, 2, 1195, 1, .invokevirtual 26)] cs ss L st h) : G Drawing_copyFrom d mc ms cs ss 36 L st h Q := G.run (by decide +kernel) hw
theorem B_Drawing_copyFrom_47 {d mc ms cs ss : Nat} {L : List (Option Value)} {st : List Value} {h : g_H} {Q : g_Po} (hw : g_wp Drawing_copyFrom d mc ms Q 48 [(47, 1, 0, 0, 0, 0, .return_)] cs ss L st h) : G Drawing_copyFrom d mc ms cs ss 47 L st h Q := G.run (by decide +kernel) hw
theorem Drawing_find_c {d a i : Nat} {σ : Nat → Nat} {Ss : List Stk} {pn : Stk} {h : g_H} {Q : g_Po} (ha : drw h a σ Ss pn) (hi : i < Ss.length) (hQ : Q (some (.ref (σ i))) h) : Call Drawing_find d 0 0 [.ref a, .int (I (i : Int))] h Q := by
  obtain ⟨a1, a2, ⟨f, a3, a4⟩, a5, a6, a7, a8, a9⟩ := ha
  refine Call.intro (by rfl) (Nat.le_of_ble_eq_true rfl) ?_
  refine G.eqL (L := [some (.ref _), some (.int _)]) rfl ?_
  refine B_Drawing_find_0 ?_
  simp only [wp_cons, wp_nil, List.getElem?_cons_zero, List.getElem?_cons_succ, List.set_cons_zero, List.set_cons_succ, s_iload_n1, ldI_s, s_ifCond_lt, p1_s, true_and, and_true, Nat.le_refl, true_implies, forall_const, not_false_eq_true, false_implies, not_true_eq_false, reduceCtorEq, tl_s, tl_n, rf_s, List.cons_append, List.nil_append, true_or, or_true]
  refine b_lt (by omega) (by omega) (fun c => absurd c (by omega)) (fun c => ?_)
  refine B_Drawing_find_4 ?_
  simp only [wp_cons, wp_nil, List.getElem?_cons_zero, List.getElem?_cons_succ, List.set_cons_zero, List.set_cons_succ, s_iload_n1, ldI_s, s_aload_n0, ldA_r, ldA_n, ldA_s, s_getfield, pR_s, ob_s, gt_s, s_if_icmp_ge, p2_s, true_and, and_true, Nat.le_refl, true_implies, forall_const, not_false_eq_true, false_implies, not_true_eq_false, reduceCtorEq, tl_s, tl_n, rf_s, List.cons_append, List.nil_append, true_or, or_true, a2]
  refine b_le (by omega) (by omega) (fun c => absurd c (by omega)) (fun c => ?_)
  refine B_Drawing_find_12 ?_
  simp only [wp_cons, wp_nil, List.getElem?_cons_zero, List.getElem?_cons_succ, List.set_cons_zero, List.set_cons_succ, s_iload_n1, ldI_s, s_aload_n0, ldA_r, ldA_n, ldA_s, s_getfield, pR_s, ob_s, gt_s, s_arraylength, al_0, al_1, al_2, al_3, s_if_icmp_ge, p2_s, true_and, and_true, Nat.le_refl, true_implies, forall_const, not_false_eq_true, false_implies, not_true_eq_false, reduceCtorEq, tl_s, tl_n, rf_s, List.cons_append, List.nil_append, true_or, or_true, a2, a3]
  refine b_le (by omega) (by omega) (fun c => absurd c (by omega)) (fun c => ?_)
  refine B_Drawing_find_21 ?_
  simp only [wp_cons, wp_nil, List.getElem?_cons_zero, List.getElem?_cons_succ, List.set_cons_zero, List.set_cons_succ, s_aload_n0, ldA_r, ldA_n, ldA_s, s_getfield, pR_s, ob_s, gt_s, s_iload_n1, ldI_s, s_aaload, iR_s, ra_s, rf_s, s_goto, true_and, and_true, Nat.le_refl, true_implies, forall_const, not_false_eq_true, false_implies, not_true_eq_false, reduceCtorEq, tl_s, tl_n, List.cons_append, List.nil_append, true_or, or_true, a2, a3]
  refine ⟨i, by omega, rfl, ?_⟩
  rw [a4 i (by omega)]
  refine B_Drawing_find_31 ?_
  simp only [wp_cons, wp_nil, List.getElem?_cons_zero, List.getElem?_cons_succ, List.set_cons_zero, List.set_cons_succ, s_areturn, pA_r, pA_n, rt_Drawing_find, true_and, and_true, Nat.le_refl, true_implies, forall_const, not_false_eq_true, false_implies, not_true_eq_false, reduceCtorEq, tl_s, tl_n, rf_s, List.cons_append, List.nil_append, true_or, or_true]
  exact hQ
theorem Drawing_find_n {d a : Nat} {i : Int} {σ : Nat → Nat} {Ss : List Stk} {pn : Stk} {h : g_H} {Q : g_Po} (ha : drw h a σ Ss pn) (hi : i32 i) (ho : i < 0 ∨ (Ss.length : Int) ≤ i) (hQ : Q (some .null) h) : Call Drawing_find d 0 0 [.ref a, .int (I i)] h Q := by
  obtain ⟨a1, a2, ⟨f, a3, a4⟩, a5, a6, a7, a8, a9⟩ := ha
  refine Call.intro (by rfl) (Nat.le_of_ble_eq_true rfl) ?_
  refine G.eqL (L := [some (.ref _), some (.int _)]) rfl ?_
  refine B_Drawing_find_0 ?_
  simp only [wp_cons, wp_nil, List.getElem?_cons_zero, List.getElem?_cons_succ, List.set_cons_zero, List.set_cons_succ, s_iload_n1, ldI_s, s_ifCond_lt, p1_s, true_and, and_true, Nat.le_refl, true_implies, forall_const, not_false_eq_true, false_implies, not_true_eq_false, reduceCtorEq, tl_s, tl_n, rf_s, List.cons_append, List.nil_append, true_or, or_true]
  refine b_lt hi (by omega) (fun c => ?_) (fun c => ?_)
  · refine B_Drawing_find_30 ?_
    simp only [wp_cons, wp_nil, List.getElem?_cons_zero, List.getElem?_cons_succ, List.set_cons_zero, List.set_cons_succ, s_aconst_null, true_and, and_true, Nat.le_refl, true_implies, forall_const, not_false_eq_true, false_implies, not_true_eq_false, reduceCtorEq, tl_s, tl_n, rf_s, List.cons_append, List.nil_append, true_or, or_true]
    refine B_Drawing_find_31 ?_
    simp only [wp_cons, wp_nil, List.getElem?_cons_zero, List.getElem?_cons_succ, List.set_cons_zero, List.set_cons_succ, s_areturn, pA_r, pA_n, rt_Drawing_find, true_and, and_true, Nat.le_refl, true_implies, forall_const, not_false_eq_true, false_implies, not_true_eq_false, reduceCtorEq, tl_s, tl_n, rf_s, List.cons_append, List.nil_append, true_or, or_true]
    exact hQ
  refine B_Drawing_find_4 ?_
  simp only [wp_cons, wp_nil, List.getElem?_cons_zero, List.getElem?_cons_succ, List.set_cons_zero, List.set_cons_succ, s_iload_n1, ldI_s, s_aload_n0, ldA_r, ldA_n, ldA_s, s_getfield, pR_s, ob_s, gt_s, s_if_icmp_ge, p2_s, true_and, and_true, Nat.le_refl, true_implies, forall_const, not_false_eq_true, false_implies, not_true_eq_false, reduceCtorEq, tl_s, tl_n, rf_s, List.cons_append, List.nil_append, true_or, or_true, a2]
  refine b_le (by omega) (by omega) (fun c => ?_) (fun c => absurd c (by omega))
  refine B_Drawing_find_30 ?_
  simp only [wp_cons, wp_nil, List.getElem?_cons_zero, List.getElem?_cons_succ, List.set_cons_zero, List.set_cons_succ, s_aconst_null, true_and, and_true, Nat.le_refl, true_implies, forall_const, not_false_eq_true, false_implies, not_true_eq_false, reduceCtorEq, tl_s, tl_n, rf_s, List.cons_append, List.nil_append, true_or, or_true]
  refine B_Drawing_find_31 ?_
  simp only [wp_cons, wp_nil, List.getElem?_cons_zero, List.getElem?_cons_succ, List.set_cons_zero, List.set_cons_succ, s_areturn, pA_r, pA_n, rt_Drawing_find, true_and, and_true, Nat.le_refl, true_implies, forall_const, not_false_eq_true, false_implies, not_true_eq_false, reduceCtorEq, tl_s, tl_n, rf_s, List.cons_append, List.nil_append, true_or, or_true]
  exact hQ
theorem Drawing_append_c {d a t : Nat} (d2 : 2 ≤ d) {σ : Nat → Nat} {Ss : List Stk} {pn T : Stk} {h : g_H} {Q : g_Po} (ha : drw h a σ Ss pn) (hl : Ss.length < 10) (ht : stL h t T) (hta : t + 2 ≤ a + 4 ∨ a + 24 ≤ t) (hQ : ∀ h', chg a (a + 24) h h' → drw h' a σ (Ss ++ [T]) pn → Q none h') : Call Drawing_append d 0 0 [.ref a, .ref t] h Q := by
  have d1 : 1 ≤ d := by omega
  have ha0 := ha
  obtain ⟨a1, a2, ⟨f, a3, a4⟩, a5, a6, a7, a8, a9⟩ := ha
  have hs := a6 Ss.length (by omega)
  obtain ⟨n9, z9, f9, k1, k2⟩ := a8 Ss.length hl
  refine Call.intro (by rfl) (Nat.le_of_ble_eq_true rfl) ?_
  refine G.eqL (L := [some (.ref _), some (.ref _), none]) rfl ?_
  refine B_Drawing_append_0 ?_
  simp only [wp_cons, wp_nil, List.getElem?_cons_zero, List.getElem?_cons_succ, List.set_cons_zero, List.set_cons_succ, s_aload_n0, ldA_r, ldA_n, ldA_s, s_getfield, pR_s, ob_s, gt_s, s_ifCond_lt, p1_s, true_and, and_true, Nat.le_refl, true_implies, forall_const, not_false_eq_true, false_implies, not_true_eq_false, reduceCtorEq, tl_s, tl_n, rf_s, List.cons_append, List.nil_append, true_or, or_true, a2]
  refine b_lt (by omega) (by omega) (fun c => absurd c (by omega)) (fun c => ?_)
  refine B_Drawing_append_7 ?_
  simp only [wp_cons, wp_nil, List.getElem?_cons_zero, List.getElem?_cons_succ, List.set_cons_zero, List.set_cons_succ, s_aload_n0, ldA_r, ldA_n, ldA_s, s_getfield, pR_s, ob_s, gt_s, s_arraylength, al_0, al_1, al_2, al_3, s_if_icmp_lt, p2_s, true_and, and_true, Nat.le_refl, true_implies, forall_const, not_false_eq_true, false_implies, not_true_eq_false, reduceCtorEq, tl_s, tl_n, rf_s, List.cons_append, List.nil_append, true_or, or_true, a2, a3]
  refine b_lt (by omega) (by omega) (fun c => ?_) (fun c => absurd c (by omega))
  refine B_Drawing_append_20 ?_
  simp only [wp_cons, wp_nil, List.getElem?_cons_zero, List.getElem?_cons_succ, List.set_cons_zero, List.set_cons_succ, s_aload_n0, ldA_r, ldA_n, ldA_s, s_getfield, pR_s, ob_s, gt_s, s_aaload, iR_s, ra_s, rf_s, s_astore_n2, pA_r, pA_n, s1_0, s1_s, kx_i, kx_r, kx_s, kx_n, kx_l, kx_0, s_aload_n2, s_ifnull, true_and, and_true, Nat.le_refl, true_implies, forall_const, not_false_eq_true, false_implies, not_true_eq_false, reduceCtorEq, tl_s, tl_n, List.cons_append, List.nil_append, true_or, or_true, a2, a3]
  refine ⟨Ss.length, by omega, rfl, ?_⟩
  rw [a4 _ hl]
  simp only [rf_s, pA_r, s1_s, List.getElem?_cons_zero, List.getElem?_cons_succ, List.set_cons_zero, List.set_cons_succ, kx_r, ldA_r, reduceCtorEq, false_implies, not_false_eq_true, true_implies, forall_const, true_and, wp_cons, s_aload_n2, s_ifnull]
  refine B_Drawing_append_34 ?_
  simp only [wp_cons, wp_nil, List.getElem?_cons_zero, List.getElem?_cons_succ, List.set_cons_zero, List.set_cons_succ, s_aload_n2, ldA_r, ldA_n, ldA_s, s_aload_n1, s_invokevirtual, rc_s, ob_s, List.drop_succ_cons, List.drop_zero, List.take_succ_cons, List.take_zero, List.reverse_cons, List.reverse_nil, List.nil_append, List.cons_append, List.length_cons, List.length_nil, d1, Int.reduceToNat, Nat.reduceAdd, Nat.reduceLeDiff, true_and, and_true, Nat.le_refl, true_implies, forall_const, not_false_eq_true, false_implies, not_true_eq_false, reduceCtorEq, tl_s, tl_n, rf_s, true_or, or_true, k1]
  refine Stroke_copyFrom_c (by omega) ⟨n9, z9, f9, k1, k2⟩ ht (by omega) (fun h1 c1 s1 => ?_)
  have e2 : h1[a]? = some (.inr (.inr (0, [.ref (a + 1), .ref (a + 2), .int (I (Ss.length : Int))]))) := (c1.at (by omega)).trans a2
  refine B_Drawing_append_39 ?_
  simp only [wp_cons, wp_nil, List.getElem?_cons_zero, List.getElem?_cons_succ, List.set_cons_zero, List.set_cons_succ, s_aload_n0, ldA_r, ldA_n, ldA_s, s_dup, p1v_i, p1v_r, s_getfield, pR_s, ob_s, gt_s, s_iconst, s_iadd, p2_s, I_add, s_putfield, pv_i, pv_z, pv_r, pv_f, z_01, z_11, List.length_cons, List.length_nil, true_and, and_true, Nat.le_refl, true_implies, forall_const, not_false_eq_true, false_implies, not_true_eq_false, reduceCtorEq, tl_s, tl_n, rf_s, List.cons_append, List.nil_append, true_or, or_true, e2, Nat.reduceLT, Nat.reduceAdd]
  refine B_Drawing_append_49 ?_
  simp only [wp_cons, wp_nil, List.getElem?_cons_zero, List.getElem?_cons_succ, List.set_cons_zero, List.set_cons_succ, s_return_, rt_Drawing_append, true_and, and_true, Nat.le_refl, true_implies, forall_const, not_false_eq_true, false_implies, not_true_eq_false, reduceCtorEq, tl_s, tl_n, rf_s, List.cons_append, List.nil_append, true_or, or_true]
  have c2 : chg a (a + 1) h1 (h1.set a (.inr (.inr (0, [.ref (a + 1), .ref (a + 2), .int (I ((Ss.length : Int) + 1))])))) := chg.set _ (by omega)
  refine hQ _ ((c1.wd (by omega) (by omega)).tr (c2.wd (by omega) (by omega))) ⟨by simp; omega, ?_, ⟨f, ?_, a4⟩, ?_, a6, a7, fun i hi => ?_, fun i hi => ?_⟩
  · rw [h_at _ e2]; simp
  · rw [h_ne _ (by omega), c1.at (by omega)]; exact a3
  · exact (a5.kp c1 (by omega)).kp c2 (by omega)
  · by_cases e : i = Ss.length
    · rw [e]; exact (s1.kp c2 (by omega)).x
    · exact ((a8 i hi).kp c1 (by have := a7 i Ss.length hi hl e; omega)).kp c2 (by have := a6 i hi; omega)
  · simp at hi
    by_cases e : i = Ss.length
    · rw [e, sg_app_r _ _ (Nat.le_refl _), Nat.sub_self]; exact s1.kp c2 (by omega)
    · rw [sg_app_l _ _ (by omega)]
      exact ((a9 i (by omega)).kp c1 (by have := a7 i Ss.length (by omega) hl e; omega)).kp c2 (by have := a6 i (by omega); omega)
/-! the order of the row while a stroke is brought to the end -/
def bl_σ (σ : Nat → Nat) (i n : Nat) : Nat → Nat := fun k => if i ≤ k ∧ k + 1 < n then σ (k + 1) else if k + 1 = n then σ i else σ k
theorem el_s {b : Nat} {h : g_H} {fs : List Value} (hb : h[b]? = some (.inr (.inr (2, fs)))) : g_el 2 b h = True := by unfold g_el; rw [hb]; simp
theorem el_d {b : Nat} {h : g_H} {fs : List Value} (hb : h[b]? = some (.inr (.inr (0, fs)))) : g_el 3 b h = True := by unfold g_el; rw [hb]; simp
theorem up_same {α : Type} (f : Nat → α) (j : Nat) (x : α) : va_up f j x j = x := by simp [va_up]
theorem up_ne {α : Type} (f : Nat → α) {j k : Nat} (x : α) (h : ¬ k = j) : va_up f j x k = f k := by simp [va_up, h]
theorem Drawing_bringLast_l {d a i : Nat} (d1 : 1 ≤ d) {σ : Nat → Nat} {Ss : List Stk} {pn : Stk} {h : g_H} {Q : g_Po} (hi : i < Ss.length) (ha : drw h a σ Ss pn) (hQ : ∀ h', chg a (a + 24) h h' → drw h' a (bl_σ σ i Ss.length) (Ss.eraseIdx i ++ [sg Ss i]) pn → Q none h') :
    ∀ (m k : Nat) (h1 : g_H) (f : Nat → Option Nat), k + m + 1 = Ss.length → i ≤ k → chg (a + 1) (a + 2) h h1 → h1[a + 1]? = some (.inr (.inl (2, 10, f))) → (∀ j, j < 10 → f j = some (if i ≤ j ∧ j < k then σ (j + 1) else σ j)) →
    G Drawing_bringLast d 0 0 0 0 13 [some (.ref a), some (.int (I (i : Int))), some (.ref (σ i)), some (.int (I (k : Int)))] [] h1 Q := by
  obtain ⟨a1, a2, ⟨f0, a3, a4⟩, a5, a6, a7, a8, a9⟩ := id ha
  intro m
  induction m with
  | zero =>
    intro k h1 f hk hik c q1 q2
    have e2 : h1[a]? = some (.inr (.inr (0, [.ref (a + 1), .ref (a + 2), .int (I (Ss.length : Int))]))) := (c.at (by omega)).trans a2
    obtain ⟨n9, z9, f9, k1, k2⟩ := (a8 i (by omega)).kp c (by have := a6 i (by omega); omega)
    refine B_Drawing_bringLast_13 ?_
    simp only [wp_cons, wp_nil, List.getElem?_cons_zero, List.getElem?_cons_succ, List.set_cons_zero, List.set_cons_succ, s_iload_n3, ldI_s, s_iconst, s_iadd, p2_s, I_add, s_aload_n0, ldA_r, ldA_n, ldA_s, s_getfield, pR_s, ob_s, gt_s, s_if_icmp_ge, true_and, and_true, Nat.le_refl, true_implies, forall_const, not_false_eq_true, false_implies, not_true_eq_false, reduceCtorEq, tl_s, tl_n, rf_s, List.cons_append, List.nil_append, true_or, or_true, e2]
    refine b_le (by omega) (by omega) (fun c1 => ?_) (fun c1 => absurd c1 (by omega))
    refine B_Drawing_bringLast_54 ?_
    simp only [wp_cons, wp_nil, List.getElem?_cons_zero, List.getElem?_cons_succ, List.set_cons_zero, List.set_cons_succ, s_aload_n0, ldA_r, ldA_n, ldA_s, s_getfield, pR_s, ob_s, gt_s, s_arraylength, al_0, al_1, al_2, al_3, s_invokestatic, rc_s, List.drop_succ_cons, List.drop_zero, List.take_succ_cons, List.take_zero, List.reverse_cons, List.reverse_nil, List.nil_append, List.cons_append, List.length_cons, List.length_nil, Nat.reduceEqDiff, eq_self, reduceIte, p1_s, p2_s, l1_s, d1, Int.reduceToNat, Nat.reduceAdd, Nat.reduceLeDiff, s_iconst, s_isub, I_sub, s_aload_n2, s_aastore, riR_s, ra_s, s_return_, rt_Drawing_bringLast, true_and, and_true, Nat.le_refl, true_implies, forall_const, not_false_eq_true, false_implies, not_true_eq_false, reduceCtorEq, tl_s, tl_n, rf_s, true_or, or_true, e2, q1, I_mn (x := (Ss.length : Int)) (y := ((10 : Nat) : Int)) (by omega) (by omega), el_s k1]
    refine ⟨Ss.length - 1, by omega, I_cg (by omega), ?_⟩
    refine hQ _ ((c.wd (by omega) (by omega)).tr (chg.set _ (by omega))) ⟨by simp [List.length_eraseIdx, hi]; omega, ?_, ⟨_, h_at _ q1, fun j hj => ?_⟩, ?_, fun j hj => ?_, fun j j' hj hj' hjj => ?_, fun j hj => ?_, fun j hj => ?_⟩
    · rw [h_ne _ (by omega), e2]; simp [List.length_eraseIdx, hi]; congr 1; omega
    · unfold bl_σ
      by_cases e : j = Ss.length - 1
      · rw [e, up_same, if_neg (by omega), if_pos (by omega)]
      · rw [up_ne _ _ e, q2 j hj]
        by_cases e3 : i ≤ j ∧ j < k
        · rw [if_pos e3, if_pos (by omega)]
        · rw [if_neg e3, if_neg (by omega), if_neg (by omega)]
    · exact (a5.kp c (by omega)).kp (chg.set (lo := a + 1) (hi := a + 2) _ (by omega)) (by omega)
    · unfold bl_σ
      split
      · exact a6 _ (by omega)
      · split
        · exact a6 _ (by omega)
        · exact a6 _ (by omega)
    · unfold bl_σ
      repeat' split
      all_goals first | exact a7 _ _ (by omega) (by omega) (by omega) | (exfalso; omega)
    · have hx : ∀ q, q < 10 → stX (h1.set (a + 1) (.inr (.inl (2, 10, va_up f (Ss.length - 1) (some (σ i)))))) (σ q) := fun q hq => ((a8 q hq).kp c (by have := a6 q hq; omega)).kp (chg.set (lo := a + 1) (hi := a + 2) _ (by omega)) (by have := a6 q hq; omega)
      unfold bl_σ
      repeat' split
      all_goals exact hx _ (by omega)
    · have hx : ∀ q, q < Ss.length → stL (h1.set (a + 1) (.inr (.inl (2, 10, va_up f (Ss.length - 1) (some (σ i)))))) (σ q) (sg Ss q) := fun q hq => ((a9 q hq).kp c (by have := a6 q (by omega); omega)).kp (chg.set (lo := a + 1) (hi := a + 2) _ (by omega)) (by have := a6 q (by omega); omega)
      have hle : (Ss.eraseIdx i).length = Ss.length - 1 := by simp [List.length_eraseIdx, hi]
      rw [List.length_append, hle] at hj
      simp at hj
      unfold bl_σ
      by_cases e : j = Ss.length - 1
      · rw [if_neg (by omega), if_pos (by omega), sg_app_r _ _ (by omega), hle, e, Nat.sub_self]
        exact hx i hi
      · rw [sg_app_l _ _ (by omega), sg_erase]
        by_cases e3 : j < i
        · rw [if_neg (by omega), if_neg (by omega), if_pos e3]; exact hx _ (by omega)
        · rw [if_pos (by omega), if_neg e3]; exact hx _ (by omega)
  | succ m ih =>
    intro k h1 f hk hik c q1 q2
    have e2 : h1[a]? = some (.inr (.inr (0, [.ref (a + 1), .ref (a + 2), .int (I (Ss.length : Int))]))) := (c.at (by omega)).trans a2
    obtain ⟨n9, z9, f9, k1, k2⟩ := (a8 (k + 1) (by omega)).kp c (by have := a6 (k + 1) (by omega); omega)
    refine B_Drawing_bringLast_13 ?_
    simp only [wp_cons, wp_nil, List.getElem?_cons_zero, List.getElem?_cons_succ, List.set_cons_zero, List.set_cons_succ, s_iload_n3, ldI_s, s_iconst, s_iadd, p2_s, I_add, s_aload_n0, ldA_r, ldA_n, ldA_s, s_getfield, pR_s, ob_s, gt_s, s_if_icmp_ge, true_and, and_true, Nat.le_refl, true_implies, forall_const, not_false_eq_true, false_implies, not_true_eq_false, reduceCtorEq, tl_s, tl_n, rf_s, List.cons_append, List.nil_append, true_or, or_true, e2]
    refine b_le (by omega) (by omega) (fun c1 => absurd c1 (by omega)) (fun c1 => ?_)
    refine B_Drawing_bringLast_23 ?_
    simp only [wp_cons, wp_nil, List.getElem?_cons_zero, List.getElem?_cons_succ, List.set_cons_zero, List.set_cons_succ, s_iload_n3, ldI_s, s_iconst, s_iadd, p2_s, I_add, s_aload_n0, ldA_r, ldA_n, ldA_s, s_getfield, pR_s, ob_s, gt_s, s_arraylength, al_0, al_1, al_2, al_3, s_if_icmp_ge, true_and, and_true, Nat.le_refl, true_implies, forall_const, not_false_eq_true, false_implies, not_true_eq_false, reduceCtorEq, tl_s, tl_n, rf_s, List.cons_append, List.nil_append, true_or, or_true, e2, q1]
    refine b_le (by omega) (by omega) (fun c1 => absurd c1 (by omega)) (fun c1 => ?_)
    refine B_Drawing_bringLast_34 ?_
    simp only [wp_cons, wp_nil, List.getElem?_cons_zero, List.getElem?_cons_succ, List.set_cons_zero, List.set_cons_succ, s_aload_n0, ldA_r, ldA_n, ldA_s, s_getfield, pR_s, ob_s, gt_s, s_iload_n3, ldI_s, s_iconst, s_iadd, p2_s, I_add, s_aaload, iR_s, ra_s, rf_s, s_aastore, riR_s, s_iinc, s1_0, s1_s, kx_i, kx_r, kx_s, kx_n, kx_l, kx_0, s_goto, true_and, and_true, Nat.le_refl, true_implies, forall_const, not_false_eq_true, false_implies, not_true_eq_false, reduceCtorEq, tl_s, tl_n, List.cons_append, List.nil_append, true_or, or_true, e2, q1]
    refine ⟨k + 1, by omega, rfl, ?_⟩
    rw [q2 (k + 1) (by omega), if_neg (by omega)]
    simp only [rf_s, riR_s, q1, ra_s, el_s k1, true_and]
    refine ⟨k, by omega, rfl, ?_⟩
    refine ih (k + 1) _ _ (by omega) (by omega) (c.tr (chg.set _ (by omega))) (h_at _ q1) (fun j hj => ?_)
    by_cases e : j = k
    · rw [e, up_same, if_pos (by omega)]
    · rw [up_ne _ _ e, q2 j hj]
      by_cases e3 : i ≤ j ∧ j < k
      · rw [if_pos e3, if_pos (by omega)]
      · rw [if_neg e3, if_neg (by omega)]
theorem Drawing_bringLast_c {d a i : Nat} (d1 : 1 ≤ d) {σ : Nat → Nat} {Ss : List Stk} {pn : Stk} {h : g_H} {Q : g_Po} (ha : drw h a σ Ss pn) (hi : i < Ss.length) (hQ : ∀ h', chg a (a + 24) h h' → drw h' a (bl_σ σ i Ss.length) (Ss.eraseIdx i ++ [sg Ss i]) pn → Q none h') : Call Drawing_bringLast d 0 0 [.ref a, .int (I (i : Int))] h Q := by
  obtain ⟨a1, a2, ⟨f, a3, a4⟩, a5, a6, a7, a8, a9⟩ := id ha
  refine Call.intro (by rfl) (Nat.le_of_ble_eq_true rfl) ?_
  refine G.eqL (L := [some (.ref _), some (.int _), none, none]) rfl ?_
  refine B_Drawing_bringLast_0 ?_
  simp only [wp_cons, wp_nil, List.getElem?_cons_zero, List.getElem?_cons_succ, List.set_cons_zero, List.set_cons_succ, s_aload_n0, ldA_r, ldA_n, ldA_s, s_iload_n1, ldI_s, s_invokevirtual, rc_s, ob_s, List.drop_succ_cons, List.drop_zero, List.take_succ_cons, List.take_zero, List.reverse_cons, List.reverse_nil, List.nil_append, List.cons_append, List.length_cons, List.length_nil, d1, Int.reduceToNat, Nat.reduceAdd, Nat.reduceLeDiff, true_and, and_true, Nat.le_refl, true_implies, forall_const, not_false_eq_true, false_implies, not_true_eq_false, reduceCtorEq, tl_s, tl_n, rf_s, true_or, or_true, a2]
  refine Drawing_find_c ha hi ?_
  refine B_Drawing_bringLast_5 ?_
  simp only [wp_cons, wp_nil, List.getElem?_cons_zero, List.getElem?_cons_succ, List.set_cons_zero, List.set_cons_succ, s_astore_n2, pA_r, pA_n, s1_0, s1_s, kx_i, kx_r, kx_s, kx_n, kx_l, kx_0, s_aload_n2, ldA_r, ldA_n, ldA_s, s_ifnonnull, true_and, and_true, Nat.le_refl, true_implies, forall_const, not_false_eq_true, false_implies, not_true_eq_false, reduceCtorEq, tl_s, tl_n, rf_s, List.cons_append, List.nil_append, true_or, or_true]
  refine B_Drawing_bringLast_11 ?_
  simp only [wp_cons, wp_nil, List.getElem?_cons_zero, List.getElem?_cons_succ, List.set_cons_zero, List.set_cons_succ, s_iload_n1, ldI_s, s_istore_n3, p1_s, s1_0, s1_s, kx_i, kx_r, kx_s, kx_n, kx_l, kx_0, true_and, and_true, Nat.le_refl, true_implies, forall_const, not_false_eq_true, false_implies, not_true_eq_false, reduceCtorEq, tl_s, tl_n, rf_s, List.cons_append, List.nil_append, true_or, or_true]
  refine Drawing_bringLast_l d1 hi ha hQ (Ss.length - 1 - i) i h f (by omega) (Nat.le_refl _) chg.rf a3 (fun j hj => ?_)
  rw [a4 j hj, if_neg (by omega)]
theorem Drawing_drop_c {d a i : Nat} (d2 : 2 ≤ d) {σ : Nat → Nat} {Ss : List Stk} {pn : Stk} {h : g_H} {Q : g_Po} (ha : drw h a σ Ss pn) (hi : i < Ss.length) (hQ : ∀ h', chg a (a + 24) h h' → drw h' a (bl_σ σ i Ss.length) (Ss.eraseIdx i) pn → Q none h') : Call Drawing_drop d 0 0 [.ref a, .int (I (i : Int))] h Q := by
  have d1 : 1 ≤ d := by omega
  obtain ⟨a1, a2, ⟨f, a3, a4⟩, a5, a6, a7, a8, a9⟩ := id ha
  have hle : (Ss.eraseIdx i).length = Ss.length - 1 := by simp [List.length_eraseIdx, hi]
  refine Call.intro (by rfl) (Nat.le_of_ble_eq_true rfl) ?_
  refine G.eqL (L := [some (.ref _), some (.int _)]) rfl ?_
  refine B_Drawing_drop_0 ?_
  simp only [wp_cons, wp_nil, List.getElem?_cons_zero, List.getElem?_cons_succ, List.set_cons_zero, List.set_cons_succ, s_aload_n0, ldA_r, ldA_n, ldA_s, s_iload_n1, ldI_s, s_invokevirtual, rc_s, ob_s, List.drop_succ_cons, List.drop_zero, List.take_succ_cons, List.take_zero, List.reverse_cons, List.reverse_nil, List.nil_append, List.cons_append, List.length_cons, List.length_nil, d1, Int.reduceToNat, Nat.reduceAdd, Nat.reduceLeDiff, true_and, and_true, Nat.le_refl, true_implies, forall_const, not_false_eq_true, false_implies, not_true_eq_false, reduceCtorEq, tl_s, tl_n, rf_s, true_or, or_true, a2]
  refine Drawing_find_c ha hi ?_
  refine B_Drawing_drop_5 ?_
  simp only [wp_cons, wp_nil, List.getElem?_cons_zero, List.getElem?_cons_succ, List.set_cons_zero, List.set_cons_succ, s_ifnull, pA_r, pA_n, true_and, and_true, Nat.le_refl, true_implies, forall_const, not_false_eq_true, false_implies, not_true_eq_false, reduceCtorEq, tl_s, tl_n, rf_s, List.cons_append, List.nil_append, true_or, or_true]
  refine B_Drawing_drop_8 ?_
  simp only [wp_cons, wp_nil, List.getElem?_cons_zero, List.getElem?_cons_succ, List.set_cons_zero, List.set_cons_succ, s_aload_n0, ldA_r, ldA_n, ldA_s, s_iload_n1, ldI_s, s_invokevirtual, rc_s, ob_s, List.drop_succ_cons, List.drop_zero, List.take_succ_cons, List.take_zero, List.reverse_cons, List.reverse_nil, List.nil_append, List.cons_append, List.length_cons, List.length_nil, d1, Int.reduceToNat, Nat.reduceAdd, Nat.reduceLeDiff, true_and, and_true, Nat.le_refl, true_implies, forall_const, not_false_eq_true, false_implies, not_true_eq_false, reduceCtorEq, tl_s, tl_n, rf_s, true_or, or_true, a2]
  refine Drawing_bringLast_c (by omega) ha hi (fun h1 c1 b1 => ?_)
  obtain ⟨b1, b2, ⟨g, b3, b4⟩, b5, b6, b7, b8, b9⟩ := b1
  rw [List.length_append, hle] at b2
  refine B_Drawing_drop_13 ?_
  simp only [wp_cons, wp_nil, List.getElem?_cons_zero, List.getElem?_cons_succ, List.set_cons_zero, List.set_cons_succ, s_aload_n0, ldA_r, ldA_n, ldA_s, s_dup, p1v_i, p1v_r, s_getfield, pR_s, ob_s, gt_s, s_iconst, s_isub, p2_s, I_sub, s_putfield, pv_i, pv_z, pv_r, pv_f, z_01, z_11, List.length_cons, List.length_nil, true_and, and_true, Nat.le_refl, true_implies, forall_const, not_false_eq_true, false_implies, not_true_eq_false, reduceCtorEq, tl_s, tl_n, rf_s, List.cons_append, List.nil_append, true_or, or_true, b2, Nat.reduceLT, Nat.reduceAdd]
  refine B_Drawing_drop_23 ?_
  simp only [wp_cons, wp_nil, List.getElem?_cons_zero, List.getElem?_cons_succ, List.set_cons_zero, List.set_cons_succ, s_return_, rt_Drawing_drop, true_and, and_true, Nat.le_refl, true_implies, forall_const, not_false_eq_true, false_implies, not_true_eq_false, reduceCtorEq, tl_s, tl_n, rf_s, List.cons_append, List.nil_append, true_or, or_true]
  have c2 : ∀ v, chg a (a + 1) h1 (h1.set a v) := fun v => chg.set _ (by omega)
  refine hQ _ (c1.tr (chg.set _ (by omega))) ⟨by omega, ?_, ⟨g, ?_, b4⟩, b5.kp (c2 _) (by omega), b6, b7, fun j hj => (b8 j hj).kp (c2 _) (by have := b6 j hj; omega), fun j hj => ?_⟩
  · rw [h_at _ b2, hle]
    rw [I_cg (show ((Ss.length - 1 + 1 : Nat) : Int) - 1 = ((Ss.length - 1 : Nat) : Int) by omega)]
  · rw [h_ne _ (by omega)]; exact b3
  · have := b9 j (by rw [List.length_append]; omega)
    rw [sg_app_l _ _ hj] at this
    exact this.kp (c2 _) (by have := b6 j (by omega); omega)
theorem Drawing_copyFrom_l {d a e : Nat} (d3 : 3 ≤ d) {τ : Nat → Nat} {Ts : List Stk} {tn : Stk} {h : g_H} {Q : g_Po} (he : drw h e τ Ts tn) (hae : e + 24 ≤ a ∨ a + 24 ≤ e) (hQ : ∀ h', chg a (a + 24) h h' → drL h' a Ts tn → Q none h') :
    ∀ (m i : Nat) (h1 : g_H) (σ : Nat → Nat) (pn : Stk) (x : Option Value), i + m = Ts.length → chg a (a + 24) h h1 → drw h1 a σ (Ts.take i) pn →
    G Drawing_copyFrom d 0 0 0 0 7 [some (.ref a), some (.ref e), some (.int (I (i : Int))), x] [] h1 Q := by
  have d1 : 1 ≤ d := by omega
  intro m
  induction m with
  | zero =>
    intro i h1 σ pn x hi c a0
    have e0 := he.kp c (by omega)
    have hb := he.len
    obtain ⟨a1, a2, ⟨f, a3, a4⟩, a5, a6, a7, a8, a9⟩ := id a0
    obtain ⟨e1, e2, ⟨g, e3, e4⟩, e5, e6, e7, e8, e9⟩ := id e0
    refine B_Drawing_copyFrom_7 ?_
    simp only [wp_cons, wp_nil, List.getElem?_cons_zero, List.getElem?_cons_succ, List.set_cons_zero, List.set_cons_succ, s_iload_n2, ldI_s, s_aload_n1, ldA_r, ldA_n, ldA_s, s_getfield, pR_s, ob_s, gt_s, s_if_icmp_ge, p2_s, true_and, and_true, Nat.le_refl, true_implies, forall_const, not_false_eq_true, false_implies, not_true_eq_false, reduceCtorEq, tl_s, tl_n, rf_s, List.cons_append, List.nil_append, true_or, or_true, e2]
    refine b_le (by omega) (by omega) (fun c1 => ?_) (fun c1 => absurd c1 (by omega))
    obtain ⟨f5, g1, g2⟩ := id a5
    refine B_Drawing_copyFrom_36 ?_
    simp only [wp_cons, wp_nil, List.getElem?_cons_zero, List.getElem?_cons_succ, List.set_cons_zero, List.set_cons_succ, s_aload_n0, ldA_r, ldA_n, ldA_s, s_getfield, pR_s, ob_s, gt_s, s_aload_n1, s_invokevirtual, rc_s, List.drop_succ_cons, List.drop_zero, List.take_succ_cons, List.take_zero, List.reverse_cons, List.reverse_nil, List.nil_append, List.cons_append, List.length_cons, List.length_nil, d1, Int.reduceToNat, Nat.reduceAdd, Nat.reduceLeDiff, true_and, and_true, Nat.le_refl, true_implies, forall_const, not_false_eq_true, false_implies, not_true_eq_false, reduceCtorEq, tl_s, tl_n, rf_s, true_or, or_true, a2, e2, g1.1]
    refine Stroke_copyFrom_c (by omega) a5.x e5 (by omega) (fun h2 c2 s2 => ?_)
    refine B_Drawing_copyFrom_47 ?_
    simp only [wp_cons, wp_nil, List.getElem?_cons_zero, List.getElem?_cons_succ, List.set_cons_zero, List.set_cons_succ, s_return_, rt_Drawing_copyFrom, true_and, and_true, Nat.le_refl, true_implies, forall_const, not_false_eq_true, false_implies, not_true_eq_false, reduceCtorEq, tl_s, tl_n, rf_s, List.cons_append, List.nil_append, true_or, or_true]
    refine hQ _ (c.tr (c2.wd (by omega) (by omega))) ⟨σ, ?_⟩
    have := a0.upn c2 s2
    rw [List.take_of_length_le (by omega)] at this
    exact this
  | succ m ih =>
    intro i h1 σ pn x hi c a0
    have e0 := he.kp c (by omega)
    have hb := he.len
    obtain ⟨a1, a2, ⟨f, a3, a4⟩, a5, a6, a7, a8, a9⟩ := id a0
    obtain ⟨e1, e2, ⟨g, e3, e4⟩, e5, e6, e7, e8, e9⟩ := id e0
    refine B_Drawing_copyFrom_7 ?_
    simp only [wp_cons, wp_nil, List.getElem?_cons_zero, List.getElem?_cons_succ, List.set_cons_zero, List.set_cons_succ, s_iload_n2, ldI_s, s_aload_n1, ldA_r, ldA_n, ldA_s, s_getfield, pR_s, ob_s, gt_s, s_if_icmp_ge, p2_s, true_and, and_true, Nat.le_refl, true_implies, forall_const, not_false_eq_true, false_implies, not_true_eq_false, reduceCtorEq, tl_s, tl_n, rf_s, List.cons_append, List.nil_append, true_or, or_true, e2]
    refine b_le (by omega) (by omega) (fun c1 => absurd c1 (by omega)) (fun c1 => ?_)
    refine B_Drawing_copyFrom_15 ?_
    simp only [wp_cons, wp_nil, List.getElem?_cons_zero, List.getElem?_cons_succ, List.set_cons_zero, List.set_cons_succ, s_aload_n1, ldA_r, ldA_n, ldA_s, s_iload_n2, ldI_s, s_invokevirtual, rc_s, ob_s, List.drop_succ_cons, List.drop_zero, List.take_succ_cons, List.take_zero, List.reverse_cons, List.reverse_nil, List.nil_append, List.cons_append, List.length_cons, List.length_nil, d1, Int.reduceToNat, Nat.reduceAdd, Nat.reduceLeDiff, true_and, and_true, Nat.le_refl, true_implies, forall_const, not_false_eq_true, false_implies, not_true_eq_false, reduceCtorEq, tl_s, tl_n, rf_s, true_or, or_true, e2]
    refine Drawing_find_c e0 (by omega) ?_
    refine B_Drawing_copyFrom_20 ?_
    simp only [wp_cons, wp_nil, List.getElem?_cons_zero, List.getElem?_cons_succ, List.set_cons_zero, List.set_cons_succ, s_astore_n3, pA_r, pA_n, s1_0, s1_s, kx_i, kx_r, kx_s, kx_n, kx_l, kx_0, s_aload_n3, ldA_r, ldA_n, ldA_s, s_ifnull, true_and, and_true, Nat.le_refl, true_implies, forall_const, not_false_eq_true, false_implies, not_true_eq_false, reduceCtorEq, tl_s, tl_n, rf_s, List.cons_append, List.nil_append, true_or, or_true]
    refine B_Drawing_copyFrom_25 ?_
    simp only [wp_cons, wp_nil, List.getElem?_cons_zero, List.getElem?_cons_succ, List.set_cons_zero, List.set_cons_succ, s_aload_n0, ldA_r, ldA_n, ldA_s, s_aload_n3, s_invokevirtual, rc_s, ob_s, List.drop_succ_cons, List.drop_zero, List.take_succ_cons, List.take_zero, List.reverse_cons, List.reverse_nil, List.nil_append, List.cons_append, List.length_cons, List.length_nil, d1, Int.reduceToNat, Nat.reduceAdd, Nat.reduceLeDiff, true_and, and_true, Nat.le_refl, true_implies, forall_const, not_false_eq_true, false_implies, not_true_eq_false, reduceCtorEq, tl_s, tl_n, rf_s, true_or, or_true, a2]
    refine Drawing_append_c (by omega) a0 (by rw [List.length_take]; omega) (e9 i (by omega)) (by have := e6 i (by omega); omega) (fun h2 c2 s2 => ?_)
    refine B_Drawing_copyFrom_30 ?_
    simp only [wp_cons, wp_nil, List.getElem?_cons_zero, List.getElem?_cons_succ, List.set_cons_zero, List.set_cons_succ, s_iinc, ldI_s, s1_0, s1_s, kx_i, kx_r, kx_s, kx_n, kx_l, kx_0, I_add, s_goto, true_and, and_true, Nat.le_refl, true_implies, forall_const, not_false_eq_true, false_implies, not_true_eq_false, reduceCtorEq, tl_s, tl_n, rf_s, List.cons_append, List.nil_append, true_or, or_true]
    refine ih (i + 1) h2 σ pn _ (by omega) (c.tr c2) ?_
    have e : Ts.take (i + 1) = Ts.take i ++ [sg Ts i] := by
      rw [List.take_succ_eq_append_getElem (by omega)]
      congr 1
      unfold sg
      rw [List.getD_eq_getElem?_getD, List.getElem?_eq_getElem (by omega)]
      rfl
    rw [e]
    exact s2
theorem Drawing_copyFrom_c {d a e : Nat} (d3 : 3 ≤ d) {Ts : List Stk} {tn : Stk} {h : g_H} {Q : g_Po} (ha : drX h a) (he : drL h e Ts tn) (hae : e + 24 ≤ a ∨ a + 24 ≤ e) (hQ : ∀ h', chg a (a + 24) h h' → drL h' a Ts tn → Q none h') : Call Drawing_copyFrom d 0 0 [.ref a, .ref e] h Q := by
  obtain ⟨σ, Ss, pn, a0⟩ := ha
  obtain ⟨τ, he⟩ := he
  obtain ⟨a1, a2, ⟨f, a3, a4⟩, a5, a6, a7, a8, a9⟩ := id a0
  refine Call.intro (by rfl) (Nat.le_of_ble_eq_true rfl) ?_
  refine G.eqL (L := [some (.ref _), some (.ref _), none, none]) rfl ?_
  refine B_Drawing_copyFrom_0 ?_
  simp only [wp_cons, wp_nil, List.getElem?_cons_zero, List.getElem?_cons_succ, List.set_cons_zero, List.set_cons_succ, s_aload_n0, ldA_r, ldA_n, ldA_s, s_iconst, s_putfield, pv_i, pv_z, pv_r, pv_f, ob_s, z_01, z_11, List.length_cons, List.length_nil, s_istore_n2, p1_s, s1_0, s1_s, kx_i, kx_r, kx_s, kx_n, kx_l, kx_0, true_and, and_true, Nat.le_refl, true_implies, forall_const, not_false_eq_true, false_implies, not_true_eq_false, reduceCtorEq, tl_s, tl_n, rf_s, List.cons_append, List.nil_append, true_or, or_true, a2, Nat.reduceLT, Nat.reduceAdd]
  have c2 : ∀ v, chg a (a + 1) h (h.set a v) := fun v => chg.set _ (by omega)
  refine Drawing_copyFrom_l d3 he hae hQ Ts.length 0 _ σ pn _ (by omega) (chg.set _ (by omega)) ⟨by simp, ?_, ⟨f, ?_, a4⟩, a5.kp (c2 _) (by omega), a6, a7, fun j hj => (a8 j hj).kp (c2 _) (by have := a6 j hj; omega), fun j hj => absurd hj (by simp)⟩
  · rw [h_at _ a2]; rfl
  · rw [h_ne _ (by omega)]; exact a3
/-! ===== the saved states ===== -/
abbrev Sta : Type := List Stk × Stk
def hg (l : List Sta) (i : Nat) : Sta := l.getD i ([], ([], false))
theorem hg_app_l (l r : List Sta) {i : Nat} (h : i < l.length) : hg (l ++ r) i = hg l i := by
  unfold hg
  rw [List.getD_eq_getElem?_getD, List.getD_eq_getElem?_getD, List.getElem?_append_left h]
theorem hg_app_r (l r : List Sta) {i : Nat} (h : l.length ≤ i) : hg (l ++ r) i = hg r (i - l.length) := by
  unfold hg
  rw [List.getD_eq_getElem?_getD, List.getD_eq_getElem?_getD, List.getElem?_append_right h]
theorem hg_tail (l : List Sta) (i : Nat) : hg l.tail i = hg l (i + 1) := by
  unfold hg
  rw [List.getD_eq_getElem?_getD, List.getD_eq_getElem?_getD, List.getElem?_tail]
theorem hg_dl (l : List Sta) {i : Nat} (h : i < l.length - 1) : hg l.dropLast i = hg l i := by
  unfold hg
  rw [List.getD_eq_getElem?_getD, List.getD_eq_getElem?_getD, List.getElem?_dropLast, if_pos h]
def his (h : g_H) (a : Nat) (τ : Nat → Nat) (Hs : List Sta) : Prop :=
  Hs.length ≤ 6 ∧ h[a]? = some (.inr (.inr (1, [.ref (a + 1), .int (I (Hs.length : Int))]))) ∧ (∃ f : Nat → Option Nat, h[a + 1]? = some (.inr (.inl (3, 6, f))) ∧ ∀ i, i < 6 → f i = some (τ i)) ∧ (∀ i, i < 6 → a + 2 ≤ τ i ∧ τ i + 24 ≤ a + 146) ∧ (∀ i j, i < 6 → j < 6 → i ≠ j → τ i + 24 ≤ τ j ∨ τ j + 24 ≤ τ i) ∧ (∀ i, i < 6 → drX h (τ i)) ∧ ∀ i, i < Hs.length → drL h (τ i) (hg Hs i).1 (hg Hs i).2
def hisL (h : g_H) (a : Nat) (Hs : List Sta) : Prop := ∃ τ, his h a τ Hs
theorem his.kp {h h' : g_H} {a lo hi : Nat} {τ : Nat → Nat} {Hs : List Sta} (q : his h a τ Hs) (c : chg lo hi h h') (ho : a + 146 ≤ lo ∨ hi ≤ a) : his h' a τ Hs := by
  obtain ⟨a1, a2, ⟨f, a3, a4⟩, a5, a6, a7, a8⟩ := q
  exact ⟨a1, (c.at (by omega)).trans a2, ⟨f, (c.at (by omega)).trans a3, a4⟩, a5, a6, fun i hi => (a7 i hi).kp c (by have := a5 i hi; omega), fun i hi => (a8 i hi).kp c (by have := a5 i (by omega); omega)⟩
theorem hisL.kp {h h' : g_H} {a lo hi : Nat} {Hs : List Sta} (q : hisL h a Hs) (c : chg lo hi h h') (ho : a + 146 ≤ lo ∨ hi ≤ a) : hisL h' a Hs := by
  obtain ⟨τ, q⟩ := q
  exact ⟨τ, q.kp c ho⟩
/-! blocks of History_init -/
theorem ml_History_init : (g_m History_init).2.2.1 = 2 := rfl
theorem rt_History_init : (g_m History_init).2.2.2.1 = none := rfl
theorem B_History_init_0 {d mc ms cs ss : Nat} {L : List (Option Value)} {st : List Value} {h : g_H} {Q : g_Po} (hw : g_wp History_init d mc ms Q 15 [(0, 1, 0, 0, 0, 0, .aload_n 0), (1, 3, 9999, 0, 1076, 0, .invokespecial 3), (4, 1, 0, 0, 0, 0, .aload_n 0), (5, 2, 0, 0, 0, 6, .bipush 6), (7, 3, 3, 6, 1077, 1078, .anewarray 9), (10, 3, 1, 0, 1080, 12, .putfield 11), (13, 1, 0, 0, 0, 0, .iconst 0), (14, 1, 0, 0, 0, 0, .istore_n 1)] cs ss L st h) : G History_init d mc ms cs ss 0 L st h Q := G.run (by decide +kernel) hw
theorem B_History_init_15 {d mc ms cs ss : Nat} {L : List (Option Value)} {st : List Value} {h : g_H} {Q : g_Po} (hw : g_wp History_init d mc ms Q 24 [(15, 1, 0, 0, 0, 0, .iload_n 1), (16, 1, 0, 0, 0, 0, .aload_n 0), (17, 3, 1, 0, 1080, 2, .getfield 11), (20, 1, 0, 0, 0, 0, .arraylength), (21, 3, 43, 0, 0, 0, .if_icmp .ge 22)] cs ss L st h) : G History_init d mc ms cs ss 15 L st h Q := G.run (by decide +kernel) hw
theorem B_History_init_24 {d mc ms cs ss : Nat} {L : List (Option Value)} {st : List Value} {h : g_H} {Q : g_Po} (hw : g_wp History_init d mc ms Q 36 [(24, 1, 0, 0, 0, 0, .aload_n 0), (25, 3, 1, 0, 1080, 2, .getfield 11), (28, 1, 0, 0, 0, 0, .iload_n 1), (29, 3, 0, 3, 1077, 0, .new 9), (32, 1, 0, 0, 0, 0, .dup), (33, 3, 0, 0, 1079, 0, .invokespecial 17)] cs ss L st h) : G History_init d mc ms cs ss 24 L st h Q := G.run (by decide +kernel) hw
theorem B_History_init_36 {d mc ms cs ss : Nat} {L : List (Option Value)} {st : List Value} {h : g_H} {Q : g_Po} (hw : g_wp History_init d mc ms Q 43 [(36, 1, 0, 0, 0, 0, .aastore), (37, 3, 0, 0, 0, 1, .iinc 1 1), (40, 3, 15, 0, 0, 0, .goto (-25))] cs ss L st h) : G History_init d mc ms cs ss 36 L st h Q := G.run (by decide +kernel) hw
theorem B_History_init_43 {d mc ms cs ss : Nat} {L : List (Option Value)} {st : List Value} {h : g_H} {Q : g_Po} (hw : g_wp History_init d mc ms Q 44 [(43, 1, 0, 0, 0, 0, .return_)] cs ss L st h) : G History_init d mc ms cs ss 43 L st h Q := G.run (by decide +kernel) hw
/-! blocks of History_save -/
theorem ml_History_save : (g_m History_save).2.2.1 = 3 := rfl
theorem rt_History_save : (g_m History_save).2.2.2.1 = none := rfl
theorem B_History_save_0 {d mc ms cs ss : Nat} {L : List (Option Value)} {st : List Value} {h : g_H} {Q : g_Po} (hw : g_wp History_save d mc ms Q 12 [(0, 1, 0, 0, 0, 0, .aload_n 0), (1, 3, 1, 1, 1081, 0, .getfield 18), (4, 1, 0, 0, 0, 0, .aload_n 0), (5, 3, 1, 0, 1080, 2, .getfield 11), (8, 1, 0, 0, 0, 0, .arraylength), (9, 3, 16, 0, 0, 0, .if_icmp .lt 7)] cs ss L st h) : G History_save d mc ms cs ss 0 L st h Q := G.run (by decide +kernel) hw
theorem B_History_save_12 {d mc ms cs ss : Nat} {L : List (Option Value)} {st : List Value} {h : g_H} {Q : g_Po} (hw : g_wp History_save d mc ms Q 16 [(12, 1, 0, 0, 0, 0, .aload_n 0), (13, 3, 8, 1, 1179, 0, .invokevirtual 22)] cs ss L st h) : G History_save d mc ms cs ss 12 L st h Q := G.run (by decide +kernel) hw
theorem B_History_save_16 {d mc ms cs ss : Nat} {L : List (Option Value)} {st : List Value} {h : g_H} {Q : g_Po} (hw : g_wp History_save d mc ms Q 23 [(16, 1, 0, 0, 0, 0, .aload_n 0), (17, 3, 1, 1, 1081, 0, .getfield 18), (20, 3, 47, 0, 0, 0, .ifCond .lt 27)] cs ss L st h) : G History_save d mc ms cs ss 16 L st h Q := G.run (by decide +kernel) hw
theorem B_History_save_23 {d mc ms cs ss : Nat} {L : List (Option Value)} {st : List Value} {h : g_H} {Q : g_Po} (hw : g_wp History_save d mc ms Q 35 [(23, 1, 0, 0, 0, 0, .aload_n 0), (24, 3, 1, 1, 1081, 0, .getfield 18), (27, 1, 0, 0, 0, 0, .aload_n 0), (28, 3, 1, 0, 1080, 2, .getfield 11), (31, 1, 0, 0, 0, 0, .arraylength), (32, 3, 47, 0, 0, 0, .if_icmp .ge 15)] cs ss L st h) : G History_save d mc ms cs ss 23 L st h Q := G.run (by decide +kernel) hw
theorem B_History_save_35 {d mc ms cs ss : Nat} {L : List (Option Value)} {st : List Value} {h : g_H} {Q : g_Po} (hw : g_wp History_save d mc ms Q 47 [(35, 1, 0, 0, 0, 0, .aload_n 0), (36, 3, 1, 0, 1080, 2, .getfield 11), (39, 1, 0, 0, 0, 0, .aload_n 0), (40, 3, 1, 1, 1081, 0, .getfield 18), (43, 1, 0, 0, 0, 0, .aaload), (44, 3, 48, 0, 0, 0, .goto 4)] cs ss L st h) : G History_save d mc ms cs ss 35 L st h Q := G.run (by decide +kernel) hw
theorem B_History_save_47 {d mc ms cs ss : Nat} {L : List (Option Value)} {st : List Value} {h : g_H} {Q : g_Po} (hw : g_wp History_save d mc ms Q 48 [(47, 1, 0, 0, 0, 0, .aconst_null)] cs ss L st h) : G History_save d mc ms cs ss 47 L st h Q := G.run (by decide +kernel) hw
theorem B_History_save_48 {d mc ms cs ss : Nat} {L : List (Option Value)} {st : List Value} {h : g_H} {Q : g_Po} (hw : g_wp History_save d mc ms Q 53 [(48, 1, 0, 0, 0, 0, .astore_n 2), (49, 1, 0, 0, 0, 0, .aload_n 2), (50, 3, 68, 0, 0, 0, .ifnull 18)] cs ss L st h) : G History_save d mc ms cs ss 48 L st h Q := G.run (by decide +kernel) hw
theorem B_History_save_53 {d mc ms cs ss : Nat} {L : List (Option Value)} {st : List Value} {h : g_H} {Q : g_Po} (hw : g_wp History_save d mc ms Q 58 [(53, 1, 0, 0, 0, 0, .aload_n 2), (54, 1, 0, 0, 0, 0, .aload_n 1), (55, 3, 5, 0, 1183, 1, .invokevirtual 25)] cs ss L st h) : G History_save d mc ms cs ss 53 L st h Q := G.run (by decide +kernel) hw
theorem B_History_save_58 {d mc ms cs ss : Nat} {L : List (Option Value)} {st : List Value} {h : g_H} {Q : g_Po} (hw : g_wp History_save d mc ms Q 68 [(58, 1, 0, 0, 0, 0, .aload_n 0), (59, 1, 0, 0, 0, 0, .dup), (60, 3, 1, 1, 1081, 0, .getfield 18), (63, 1, 0, 0, 0, 1, .iconst 1), (64, 1, 0, 0, 0, 0, .iadd), (65, 3, 1, 1, 1081, 0, .putfield 18)] cs ss L st h) : G History_save d mc ms cs ss 58 L st h Q := G.run (by decide +kernel) hw
theorem B_History_save_68 {d mc ms cs ss : Nat} {L : List (Option Value)} {st : List Value} {h : g_H} {Q : g_Po} (hw : g_wp History_save d mc ms Q 69 [(68, 1, 0, 0, 0, 0, .return_)] cs ss L st h) : G History_save d mc ms cs ss 68 L st h Q := G.run (by decide +kernel) hw
/-! blocks of History_discardOldest -/
theorem ml_History_discardOldest : (g_m History_discardOldest).2.2.1 = 3 := rfl
theorem rt_History_discardOldest : (g_m History_discardOldest).2.2.2.1 = none := rfl
theorem B_History_discardOldest_0 {d mc ms cs ss : Nat} {L : List (Option Value)} {st : List Value} {h : g_H} {Q : g_Po} (hw : g_wp History_discardOldest d mc ms Q 9 [(0, 1, 0, 0, 0, 0, .aload_n 0), (1, 3, 1, 0, 1080, 2, .getfield 11), (4, 1, 0, 0, 0, 0, .iconst 0), (5, 1, 0, 0, 0, 0, .aaload), (6, 1, 0, 0, 0, 0, .astore_n 1), (7, 1, 0, 0, 0, 0, .iconst 0), (8, 1, 0, 0, 0, 0, .istore_n 2)] cs ss L st h) : G History_discardOldest d mc ms cs ss 0 L st h Q := G.run (by decide +kernel) hw
theorem B_History_discardOldest_9 {d mc ms cs ss : Nat} {L : List (Option Value)} {st : List Value} {h : g_H} {Q : g_Po} (hw : g_wp History_discardOldest d mc ms Q 20 [(9, 1, 0, 0, 0, 0, .iload_n 2), (10, 1, 0, 0, 0, 1, .iconst 1), (11, 1, 0, 0, 0, 0, .iadd), (12, 1, 0, 0, 0, 0, .aload_n 0), (13, 3, 1, 0, 1080, 2, .getfield 11), (16, 1, 0, 0, 0, 0, .arraylength), (17, 3, 40, 0, 0, 0, .if_icmp .ge 23)] cs ss L st h) : G History_discardOldest d mc ms cs ss 9 L st h Q := G.run (by decide +kernel) hw
theorem B_History_discardOldest_20 {d mc ms cs ss : Nat} {L : List (Option Value)} {st : List Value} {h : g_H} {Q : g_Po} (hw : g_wp History_discardOldest d mc ms Q 40 [(20, 1, 0, 0, 0, 0, .aload_n 0), (21, 3, 1, 0, 1080, 2, .getfield 11), (24, 1, 0, 0, 0, 0, .iload_n 2), (25, 1, 0, 0, 0, 0, .aload_n 0), (26, 3, 1, 0, 1080, 2, .getfield 11), (29, 1, 0, 0, 0, 0, .iload_n 2), (30, 1, 0, 0, 0, 1, .iconst 1), (31, 1, 0, 0, 0, 0, .iadd), (32, 1, 0, 0, 0, 0, .aaload), (33, 1, 0, 0, 0, 0, .aastore), (34, 3, 0, 0, 0, 1, .iinc 2 1), (37, 3, 9, 0, 0, 0, .goto (-28))] cs ss L st h) : G History_discardOldest d mc ms cs ss 20 L st h Q := G.run (by decide +kernel) hw
theorem B_History_discardOldest_40 {d mc ms cs ss : Nat} {L : List (Option Value)} {st : List Value} {h : g_H} {Q : g_Po} (hw : g_wp History_discardOldest d mc ms Q 65 [(40, 1, 0, 0, 0, 0, .aload_n 0), (41, 3, 1, 0, 1080, 2, .getfield 11), (44, 1, 0, 0, 0, 0, .aload_n 0), (45, 3, 1, 0, 1080, 2, .getfield 11), (48, 1, 0, 0, 0, 0, .arraylength), (49, 1, 0, 0, 0, 1, .iconst 1), (50, 1, 0, 0, 0, 0, .isub), (51, 1, 0, 0, 0, 0, .aload_n 1), (52, 1, 0, 0, 0, 0, .aastore), (53, 1, 0, 0, 0, 0, .aload_n 0), (54, 1, 0, 0, 0, 0, .aload_n 0), (55, 3, 1, 0, 1080, 2, .getfield 11), (58, 1, 0, 0, 0, 0, .arraylength), (59, 1, 0, 0, 0, 1, .iconst 1), (60, 1, 0, 0, 0, 0, .isub), (61, 3, 1, 1, 1081, 0, .putfield 18), (64, 1, 0, 0, 0, 0, .return_)] cs ss L st h) : G History_discardOldest d mc ms cs ss 40 L st h Q := G.run (by decide +kernel) hw
def rot (τ : Nat → Nat) : Nat → Nat := fun k => if k < 5 then τ (k + 1) else τ 0
theorem History_disc_l {d a : Nat} (d1 : 1 ≤ d) {τ : Nat → Nat} {Hs : List Sta} {h : g_H} {Q : g_Po} (hl : Hs.length = 6) (ha : his h a τ Hs) (hQ : ∀ h', chg a (a + 2) h h' → his h' a (rot τ) Hs.tail → Q none h') :
    ∀ (m k : Nat) (h1 : g_H) (f : Nat → Option Nat), k + m = 5 → chg (a + 1) (a + 2) h h1 → h1[a + 1]? = some (.inr (.inl (3, 6, f))) → (∀ j, j < 6 → f j = some (if j < k then τ (j + 1) else τ j)) →
    G History_discardOldest d 0 0 0 0 9 [some (.ref a), some (.ref (τ 0)), some (.int (I (k : Int)))] [] h1 Q := by
  obtain ⟨a1, a2, ⟨f0, a3, a4⟩, a5, a6, a7, a8⟩ := id ha
  intro m
  induction m with
  | zero =>
    intro k h1 f hk c q1 q2
    have e2 : h1[a]? = some (.inr (.inr (1, [.ref (a + 1), .int (I (Hs.length : Int))]))) := (c.at (by omega)).trans a2
    obtain ⟨σ9, Ss9, pn9, -, k1, -⟩ := (a7 0 (by omega)).kp c (by have := a5 0 (by omega); omega)
    refine B_History_discardOldest_9 ?_
    simp only [wp_cons, wp_nil, List.getElem?_cons_zero, List.getElem?_cons_succ, List.set_cons_zero, List.set_cons_succ, s_iload_n2, ldI_s, s_iconst, s_iadd, p2_s, I_add, s_aload_n0, ldA_r, ldA_n, ldA_s, s_getfield, pR_s, ob_s, gt_s, s_arraylength, al_0, al_1, al_2, al_3, s_if_icmp_ge, true_and, and_true, Nat.le_refl, true_implies, forall_const, not_false_eq_true, false_implies, not_true_eq_false, reduceCtorEq, tl_s, tl_n, rf_s, List.cons_append, List.nil_append, true_or, or_true, e2, q1]
    refine b_le (by omega) (by omega) (fun c1 => ?_) (fun c1 => absurd c1 (by omega))
    refine B_History_discardOldest_40 ?_
    simp only [wp_cons, wp_nil, List.getElem?_cons_zero, List.getElem?_cons_succ, List.set_cons_zero, List.set_cons_succ, s_aload_n0, ldA_r, ldA_n, ldA_s, s_getfield, pR_s, ob_s, gt_s, s_arraylength, al_0, al_1, al_2, al_3, s_iconst, s_isub, p2_s, I_sub, s_aload_n1, s_aastore, riR_s, ra_s, s_putfield, pv_i, pv_z, pv_r, pv_f, z_01, z_11, List.length_cons, List.length_nil, s_return_, rt_History_discardOldest, true_and, and_true, Nat.le_refl, true_implies, forall_const, not_false_eq_true, false_implies, not_true_eq_false, reduceCtorEq, tl_s, tl_n, rf_s, List.cons_append, List.nil_append, true_or, or_true, e2, q1, el_d k1]
    refine ⟨5, by omega, I_cg (by omega), ?_⟩
    have e3 : (h1.set (a + 1) (.inr (.inl (3, 6, va_up f 5 (some (τ 0))))))[a]? = some (.inr (.inr (1, [.ref (a + 1), .int (I (Hs.length : Int))]))) := (h_ne _ (by omega)).trans e2
    have e4 : (h1.set (a + 1) (.inr (.inl (3, 6, va_up f 5 (some (τ 0))))))[a + 1]? = some (.inr (.inl (3, 6, va_up f 5 (some (τ 0))))) := h_at _ q1
    simp only [wp_cons, wp_nil, s_aload_n0, ldA_r, s_getfield, pR_s, e3, e4, ob_s, gt_s, s_arraylength, al_3, s_iconst, s_isub, p2_s, I_sub, s_putfield, pv_i, s_return_, rt_History_discardOldest, List.getElem?_cons_zero, List.getElem?_cons_succ, List.set_cons_zero, List.set_cons_succ, List.length_cons, List.length_nil, Nat.reduceAdd, Nat.reduceLT, true_and, Nat.le_refl]
    have c2 : chg (a + 1) (a + 2) h (h1.set (a + 1) (.inr (.inl (3, 6, va_up f 5 (some (τ 0)))))) := c.tr (chg.set _ (by omega))
    have c3 : ∀ v, chg a (a + 2) h ((h1.set (a + 1) (.inr (.inl (3, 6, va_up f 5 (some (τ 0)))))).set a v) := fun v => (c2.wd (by omega) (by omega)).tr (chg.set _ (by omega))
    refine hQ _ (c3 _) ⟨by simp; omega, ?_, ⟨_, (h_ne _ (by omega)).trans e4, fun j hj => ?_⟩, fun j hj => ?_, fun i j hi hj hij => ?_, fun j hj => ?_, fun j hj => ?_⟩
    · rw [h_at _ e3, List.length_tail, hl]; rfl
    · unfold rot
      by_cases e : j = 5
      · rw [e, up_same, if_neg (by omega)]
      · rw [up_ne _ _ e, q2 j hj, if_pos (by omega), if_pos (by omega)]
    · unfold rot
      split <;> exact a5 _ (by omega)
    · unfold rot
      repeat' split
      all_goals first | exact a6 _ _ (by omega) (by omega) (by omega) | (exfalso; omega)
    · unfold rot
      split
      · exact (a7 _ (by omega)).kp (c3 _) (by have := a5 (j + 1) (by omega); omega)
      · exact (a7 _ (by omega)).kp (c3 _) (by have := a5 0 (by omega); omega)
    · rw [List.length_tail] at hj
      unfold rot
      rw [if_pos (by omega), hg_tail]
      exact (a8 _ (by omega)).kp (c3 _) (by have := a5 (j + 1) (by omega); omega)
  | succ m ih =>
    intro k h1 f hk c q1 q2
    have e2 : h1[a]? = some (.inr (.inr (1, [.ref (a + 1), .int (I (Hs.length : Int))]))) := (c.at (by omega)).trans a2
    obtain ⟨σ9, Ss9, pn9, -, k1, -⟩ := (a7 (k + 1) (by omega)).kp c (by have := a5 (k + 1) (by omega); omega)
    refine B_History_discardOldest_9 ?_
    simp only [wp_cons, wp_nil, List.getElem?_cons_zero, List.getElem?_cons_succ, List.set_cons_zero, List.set_cons_succ, s_iload_n2, ldI_s, s_iconst, s_iadd, p2_s, I_add, s_aload_n0, ldA_r, ldA_n, ldA_s, s_getfield, pR_s, ob_s, gt_s, s_arraylength, al_0, al_1, al_2, al_3, s_if_icmp_ge, true_and, and_true, Nat.le_refl, true_implies, forall_const, not_false_eq_true, false_implies, not_true_eq_false, reduceCtorEq, tl_s, tl_n, rf_s, List.cons_append, List.nil_append, true_or, or_true, e2, q1]
    refine b_le (by omega) (by omega) (fun c1 => absurd c1 (by omega)) (fun c1 => ?_)
    refine B_History_discardOldest_20 ?_
    simp only [wp_cons, wp_nil, List.getElem?_cons_zero, List.getElem?_cons_succ, List.set_cons_zero, List.set_cons_succ, s_aload_n0, ldA_r, ldA_n, ldA_s, s_getfield, pR_s, ob_s, gt_s, s_iload_n2, ldI_s, s_iconst, s_iadd, p2_s, I_add, s_aaload, iR_s, ra_s, rf_s, s_aastore, riR_s, s_iinc, s1_0, s1_s, kx_i, kx_r, kx_s, kx_n, kx_l, kx_0, s_goto, true_and, and_true, Nat.le_refl, true_implies, forall_const, not_false_eq_true, false_implies, not_true_eq_false, reduceCtorEq, tl_s, tl_n, List.cons_append, List.nil_append, true_or, or_true, e2, q1]
    refine ⟨k + 1, by omega, rfl, ?_⟩
    rw [q2 (k + 1) (by omega), if_neg (by omega)]
    simp only [rf_s, riR_s, q1, ra_s, el_d k1, true_and]
    refine ⟨k, by omega, rfl, ?_⟩
    refine ih (k + 1) _ _ (by omega) (c.tr (chg.set _ (by omega))) (h_at _ q1) (fun j hj => ?_)
    by_cases e : j = k
    · rw [e, up_same, if_pos (by omega)]
    · rw [up_ne _ _ e, q2 j hj]
      by_cases e3 : j < k
      · rw [if_pos e3, if_pos (by omega)]
      · rw [if_neg e3, if_neg (by omega)]
theorem History_disc_c {d a : Nat} (d1 : 1 ≤ d) {τ : Nat → Nat} {Hs : List Sta} {h : g_H} {Q : g_Po} (hl : Hs.length = 6) (ha : his h a τ Hs) (hQ : ∀ h', chg a (a + 2) h h' → his h' a (rot τ) Hs.tail → Q none h') : Call History_discardOldest d 0 0 [.ref a] h Q := by
  obtain ⟨a1, a2, ⟨f, a3, a4⟩, a5, a6, a7, a8⟩ := id ha
  refine Call.intro (by rfl) (Nat.le_of_ble_eq_true rfl) ?_
  refine G.eqL (L := [some (.ref _), none, none]) rfl ?_
  refine B_History_discardOldest_0 ?_
  simp only [wp_cons, wp_nil, List.getElem?_cons_zero, List.getElem?_cons_succ, List.set_cons_zero, List.set_cons_succ, s_aload_n0, ldA_r, ldA_n, ldA_s, s_getfield, pR_s, ob_s, gt_s, s_iconst, s_aaload, iR_s, ra_s, rf_s, s_astore_n1, pA_r, pA_n, s1_0, s1_s, kx_i, kx_r, kx_s, kx_n, kx_l, kx_0, s_istore_n2, p1_s, true_and, and_true, Nat.le_refl, true_implies, forall_const, not_false_eq_true, false_implies, not_true_eq_false, reduceCtorEq, tl_s, tl_n, List.cons_append, List.nil_append, true_or, or_true, a2, a3]
  refine ⟨0, by omega, rfl, ?_⟩
  rw [a4 0 (by omega)]
  simp only [rf_s, pA_r, s1_s, kx_i, kx_r, List.getElem?_cons_zero, List.getElem?_cons_succ, List.set_cons_zero, List.set_cons_succ, p1_s, wp_nil]
  exact History_disc_l d1 hl ha hQ 5 0 h f (by omega) chg.rf a3 (fun j hj => by rw [a4 j hj, if_neg (by omega)])
def hadd (Hs : List Sta) (s : Sta) : List Sta := (if Hs.length = 6 then Hs.tail else Hs) ++ [s]
theorem History_save_2 {d a e : Nat} (d4 : 4 ≤ d) {τ : Nat → Nat} {Hs : List Sta} {Ts : List Stk} {tn : Stk} {h : g_H} {Q : g_Po} (hl : Hs.length < 6) (ha : his h a τ Hs) (he : drL h e Ts tn) (hae : e + 24 ≤ a ∨ a + 146 ≤ e) (x : Option Value) (hQ : ∀ h', chg a (a + 146) h h' → hisL h' a (Hs ++ [(Ts, tn)]) → Q none h') : G History_save d 0 0 0 0 16 [some (.ref a), some (.ref e), x] [] h Q := by
  have d1 : 1 ≤ d := by omega
  obtain ⟨a1, a2, ⟨f, a3, a4⟩, a5, a6, a7, a8⟩ := id ha
  refine B_History_save_16 ?_
  simp only [wp_cons, wp_nil, List.getElem?_cons_zero, List.getElem?_cons_succ, List.set_cons_zero, List.set_cons_succ, s_aload_n0, ldA_r, ldA_n, ldA_s, s_getfield, pR_s, ob_s, gt_s, s_ifCond_lt, p1_s, true_and, and_true, Nat.le_refl, true_implies, forall_const, not_false_eq_true, false_implies, not_true_eq_false, reduceCtorEq, tl_s, tl_n, rf_s, List.cons_append, List.nil_append, true_or, or_true, a2]
  refine b_lt (by omega) (by omega) (fun c => absurd c (by omega)) (fun c => ?_)
  refine B_History_save_23 ?_
  simp only [wp_cons, wp_nil, List.getElem?_cons_zero, List.getElem?_cons_succ, List.set_cons_zero, List.set_cons_succ, s_aload_n0, ldA_r, ldA_n, ldA_s, s_getfield, pR_s, ob_s, gt_s, s_arraylength, al_0, al_1, al_2, al_3, s_if_icmp_ge, p2_s, true_and, and_true, Nat.le_refl, true_implies, forall_const, not_false_eq_true, false_implies, not_true_eq_false, reduceCtorEq, tl_s, tl_n, rf_s, List.cons_append, List.nil_append, true_or, or_true, a2, a3]
  refine b_le (by omega) (by omega) (fun c => absurd c (by omega)) (fun c => ?_)
  refine B_History_save_35 ?_
  simp only [wp_cons, wp_nil, List.getElem?_cons_zero, List.getElem?_cons_succ, List.set_cons_zero, List.set_cons_succ, s_aload_n0, ldA_r, ldA_n, ldA_s, s_getfield, pR_s, ob_s, gt_s, s_aaload, iR_s, ra_s, rf_s, s_goto, true_and, and_true, Nat.le_refl, true_implies, forall_const, not_false_eq_true, false_implies, not_true_eq_false, reduceCtorEq, tl_s, tl_n, List.cons_append, List.nil_append, true_or, or_true, a2, a3]
  refine ⟨Hs.length, by omega, rfl, ?_⟩
  rw [a4 _ hl]
  simp only [rf_s]
  refine B_History_save_48 ?_
  simp only [wp_cons, wp_nil, List.getElem?_cons_zero, List.getElem?_cons_succ, List.set_cons_zero, List.set_cons_succ, s_astore_n2, pA_r, pA_n, s1_0, s1_s, kx_i, kx_r, kx_s, kx_n, kx_l, kx_0, s_aload_n2, ldA_r, ldA_n, ldA_s, s_ifnull, true_and, and_true, Nat.le_refl, true_implies, forall_const, not_false_eq_true, false_implies, not_true_eq_false, reduceCtorEq, tl_s, tl_n, rf_s, List.cons_append, List.nil_append, true_or, or_true]
  have hs := a5 Hs.length hl
  obtain ⟨σ9, Ss9, pn9, -, k1, -⟩ := a7 Hs.length hl
  refine B_History_save_53 ?_
  simp only [wp_cons, wp_nil, List.getElem?_cons_zero, List.getElem?_cons_succ, List.set_cons_zero, List.set_cons_succ, s_aload_n2, ldA_r, ldA_n, ldA_s, s_aload_n1, s_invokevirtual, rc_s, ob_s, List.drop_succ_cons, List.drop_zero, List.take_succ_cons, List.take_zero, List.reverse_cons, List.reverse_nil, List.nil_append, List.cons_append, List.length_cons, List.length_nil, d1, Int.reduceToNat, Nat.reduceAdd, Nat.reduceLeDiff, true_and, and_true, Nat.le_refl, true_implies, forall_const, not_false_eq_true, false_implies, not_true_eq_false, reduceCtorEq, tl_s, tl_n, rf_s, true_or, or_true, k1]
  refine Drawing_copyFrom_c (by omega) (a7 _ hl) he (by omega) (fun h1 c1 s1 => ?_)
  have e2 : h1[a]? = some (.inr (.inr (1, [.ref (a + 1), .int (I (Hs.length : Int))]))) := (c1.at (by omega)).trans a2
  refine B_History_save_58 ?_
  simp only [wp_cons, wp_nil, List.getElem?_cons_zero, List.getElem?_cons_succ, List.set_cons_zero, List.set_cons_succ, s_aload_n0, ldA_r, ldA_n, ldA_s, s_dup, p1v_i, p1v_r, s_getfield, pR_s, ob_s, gt_s, s_iconst, s_iadd, p2_s, I_add, s_putfield, pv_i, pv_z, pv_r, pv_f, z_01, z_11, List.length_cons, List.length_nil, true_and, and_true, Nat.le_refl, true_implies, forall_const, not_false_eq_true, false_implies, not_true_eq_false, reduceCtorEq, tl_s, tl_n, rf_s, List.cons_append, List.nil_append, true_or, or_true, e2, Nat.reduceLT, Nat.reduceAdd]
  refine B_History_save_68 ?_
  simp only [wp_cons, wp_nil, List.getElem?_cons_zero, List.getElem?_cons_succ, List.set_cons_zero, List.set_cons_succ, s_return_, rt_History_save, true_and, and_true, Nat.le_refl, true_implies, forall_const, not_false_eq_true, false_implies, not_true_eq_false, reduceCtorEq, tl_s, tl_n, rf_s, List.cons_append, List.nil_append, true_or, or_true]
  have c2 : ∀ v, chg a (a + 1) h1 (h1.set a v) := fun v => chg.set _ (by omega)
  refine hQ _ ((c1.wd (by omega) (by omega)).tr ((c2 _).wd (by omega) (by omega))) ⟨τ, by simp; omega, ?_, ⟨f, ?_, a4⟩, a5, a6, fun j hj => ?_, fun j hj => ?_⟩
  · rw [h_at _ e2]; simp
  · rw [h_ne _ (by omega), c1.at (by omega)]; exact a3
  · by_cases e : j = Hs.length
    · rw [e]; exact (s1.kp (c2 _) (by omega)).x
    · exact ((a7 j hj).kp c1 (by have := a6 j Hs.length hj hl e; omega)).kp (c2 _) (by have := a5 j hj; omega)
  · simp at hj
    by_cases e : j = Hs.length
    · rw [e, hg_app_r _ _ (Nat.le_refl _), Nat.sub_self]; exact s1.kp (c2 _) (by omega)
    · rw [hg_app_l _ _ (by omega)]
      exact ((a8 j (by omega)).kp c1 (by have := a6 j Hs.length (by omega) hl e; omega)).kp (c2 _) (by have := a5 j (by omega); omega)
theorem History_save_c {d a e : Nat} (d4 : 4 ≤ d) {Hs : List Sta} {Ts : List Stk} {tn : Stk} {h : g_H} {Q : g_Po} (ha : hisL h a Hs) (he : drL h e Ts tn) (hae : e + 24 ≤ a ∨ a + 146 ≤ e) (hQ : ∀ h', chg a (a + 146) h h' → hisL h' a (hadd Hs (Ts, tn)) → Q none h') : Call History_save d 0 0 [.ref a, .ref e] h Q := by
  have d1 : 1 ≤ d := by omega
  obtain ⟨τ, ha⟩ := ha
  obtain ⟨a1, a2, ⟨f, a3, a4⟩, a5, a6, a7, a8⟩ := id ha
  unfold hadd at hQ
  refine Call.intro (by rfl) (Nat.le_of_ble_eq_true rfl) ?_
  refine G.eqL (L := [some (.ref _), some (.ref _), none]) rfl ?_
  refine B_History_save_0 ?_
  simp only [wp_cons, wp_nil, List.getElem?_cons_zero, List.getElem?_cons_succ, List.set_cons_zero, List.set_cons_succ, s_aload_n0, ldA_r, ldA_n, ldA_s, s_getfield, pR_s, ob_s, gt_s, s_arraylength, al_0, al_1, al_2, al_3, s_if_icmp_lt, p2_s, true_and, and_true, Nat.le_refl, true_implies, forall_const, not_false_eq_true, false_implies, not_true_eq_false, reduceCtorEq, tl_s, tl_n, rf_s, List.cons_append, List.nil_append, true_or, or_true, a2, a3]
  refine b_lt (by omega) (by omega) (fun c => ?_) (fun c => ?_)
  · rw [if_neg (by omega)] at hQ
    exact History_save_2 d4 (by omega) ha he hae _ hQ
  · rw [if_pos (by omega)] at hQ
    refine B_History_save_12 ?_
    simp only [wp_cons, wp_nil, List.getElem?_cons_zero, List.getElem?_cons_succ, List.set_cons_zero, List.set_cons_succ, s_aload_n0, ldA_r, ldA_n, ldA_s, s_invokevirtual, rc_s, ob_s, List.drop_succ_cons, List.drop_zero, List.take_succ_cons, List.take_zero, List.reverse_cons, List.reverse_nil, List.nil_append, List.cons_append, List.length_cons, List.length_nil, d1, Int.reduceToNat, Nat.reduceAdd, Nat.reduceLeDiff, true_and, and_true, Nat.le_refl, true_implies, forall_const, not_false_eq_true, false_implies, not_true_eq_false, reduceCtorEq, tl_s, tl_n, rf_s, true_or, or_true, a2]
    refine History_disc_c (by omega) (by omega) ha (fun h1 c1 b1 => ?_)
    exact History_save_2 d4 (by rw [List.length_tail]; omega) b1 (he.kp c1 (by omega)) hae _ (fun h2 c2 b2 => hQ h2 ((c1.wd (by omega) (by omega)).tr c2) b2)