/-! ===== the class's methods: the forecast of a weld, text, undo ===== -/
theorem chg.sy {lo hi : Nat} {h h' : g_H} (c : chg lo hi h h') : chg lo hi h' h := ⟨c.1.symm, fun b hb => (c.2 b hb).symm⟩
theorem txt.len {h : g_H} {a : Nat} {T : List Int} (q : txt h a T) : T.length ≤ 80 := q.1
theorem txt.o {h : g_H} {a : Nat} {T : List Int} (q : txt h a T) : h[a]? = some (.inr (.inr (3, [.ref (a + 1), .ref (a + 2), .int (I (T.length : Int))]))) := q.2.1
theorem txt.clr {h : g_H} {a : Nat} {T : List Int} (q : txt h a T) : txt (h.set a (.inr (.inr (3, [.ref (a + 1), .ref (a + 2), .int (I 0)])))) a [] := by
  obtain ⟨q1, q2, ⟨f, q3, q4⟩, q5⟩ := q
  exact ⟨by simp, h_at _ q2, ⟨f, (h_ne _ (by omega)).trans q3, fun i hi => absurd hi (by simp)⟩, q5.kp (chg.set (lo := a) (hi := a + 1) _ (by omega)) (by omega)⟩