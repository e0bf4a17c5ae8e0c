/-! ===== pure: what the law needs beside the class ===== -/
theorem rpt_no (l : List Int) : ∀ m i, rpt l m i = -6 ↔ ∀ k, i ≤ k → k < i + m → pg l k ≠ pg l (k - 1) := by
  intro m
  induction m with
  | zero => intro i; exact ⟨fun _ k h1 h2 => by omega, fun _ => rfl⟩
  | succ m ih =>
    intro i
    unfold rpt
    by_cases c : pg l i = pg l (i - 1)
    · rw [if_pos c]
      exact ⟨fun q => by omega, fun q => absurd c (q i (Nat.le_refl _) (by omega))⟩
    · rw [if_neg c, ih (i + 1)]
      refine ⟨fun q k h1 h2 => ?_, fun q k h1 h2 => q k (by omega) (by omega)⟩
      by_cases e : k = i
      · rw [e]; exact c
      · exact q k (by omega) (by omega)
theorem rep_no {S : Stk} : rep S = -6 ↔ (∀ k, 1 ≤ k → k < S.1.length → pg S.1 k ≠ pg S.1 (k - 1)) ∧ ¬ (S.2 = true ∧ pg S.1 0 = pg S.1 (S.1.length - 1)) := by
  have h := rpt_no S.1 (S.1.length - 1) 1
  unfold rep
  by_cases c : rpt S.1 (S.1.length - 1) 1 = -6
  · rw [if_pos c]
    have h2 := h.mp c
    by_cases e : S.2 = true ∧ pg S.1 0 = pg S.1 (S.1.length - 1)
    · rw [if_pos e]
      exact ⟨fun q => by omega, fun q => absurd e q.2⟩
    · rw [if_neg e]
      exact ⟨fun _ => ⟨fun k h1 h3 => h2 k h1 (by omega), e⟩, fun _ => rfl⟩
  · rw [if_neg c]
    exact ⟨fun q => absurd q c, fun q => h.mpr (fun k h1 h2 => q.1 k h1 (by omega))⟩
theorem weldF_wf {r : Int} {Ss : List Stk} (w : wfD Ss) : wfD (weldF r Ss).2 := (wit_ok _ _ _ w (weldF_ok w)).1
theorem joinF_wf {Ss : List Stk} (w : wfD Ss) : wfD (joinF Ss) := (joinF_ok w).elim (fun _ h => (jit_ok _ _ _ w h).1)
