/-! ===== pure: joining keeps the lengths, and takes a point away each time ===== -/
def tot (F : Stk → Int) (Ss : List Stk) : Int := sm (fun i => F (sg Ss i)) Ss.length
theorem tot_set (F : Stk → Int) {Ss : List Stk} {i : Nat} (T : Stk) (hi : i < Ss.length) : tot F (Ss.set i T) = tot F Ss + F T - F (sg Ss i) := by
  unfold tot
  rw [List.length_set, sm_upd (fun k => F (sg Ss k)) (fun k => F (sg (Ss.set i T) k)) i (fun k hk => by rw [sg_set _ _ _ hi, if_neg hk]), if_pos hi, sg_set _ _ _ hi, if_pos rfl]
  omega
theorem sm_skip (f : Nat → Int) (j : Nat) : ∀ n : Nat, j ≤ n → sm (fun i => if i < j then f i else f (i + 1)) n = sm f (n + 1) - f j := by
  intro n
  induction n with
  | zero => intro h; rw [show j = 0 by omega, sm_z, sm_s, sm_z]; omega
  | succ n ih =>
    intro h
    by_cases c : j = n + 1
    · subst c
      rw [sm_s f (n + 1)]
      rw [sm_cg (n + 1) (fun i hi => if_pos hi)]
      omega
    · rw [sm_s, ih (by omega), if_neg (by omega), sm_s f (n + 1)]
      omega
theorem tot_erase (F : Stk → Int) {Ss : List Stk} {i : Nat} (hi : i < Ss.length) : tot F (Ss.eraseIdx i) = tot F Ss - F (sg Ss i) := by
  unfold tot
  have hl : (Ss.eraseIdx i).length = Ss.length - 1 := List.length_eraseIdx_of_lt hi
  rw [hl]
  have e := sm_skip (fun k => F (sg Ss k)) i (Ss.length - 1) (by omega)
  rw [show Ss.length - 1 + 1 = Ss.length by omega] at e
  rw [← e]
  refine sm_cg _ (fun k hk => ?_)
  rw [sg_erase]
  split <;> rfl
/-- the length of a way along points -/
def dst (p q : Int) : Int := rt (100 * sqd p q)
theorem dst_comm (p q : Int) : dst p q = dst q p := by unfold dst; rw [sqd_comm]
def pln (l : List Int) : Int := sm (fun i => dst (pg l i) (pg l (i + 1))) (l.length - 1)
theorem lenS_op {S : Stk} (z : S.2 = false) : lenS S = pln S.1 := by
  unfold lenS pln
  have hp : pcs S = S.1.length - 1 := by unfold pcs; rw [z]; rfl
  rw [hp]
  refine sm_cg _ (fun i hi => ?_)
  unfold pr
  rw [if_pos (by omega)]
  rfl
theorem lenS_shut {l : List Int} (h4 : 4 ≤ l.length) (he : pg l 0 = pg l (l.length - 1)) : lenS (l.take (l.length - 1), true) = lenS (l, false) := by
  rw [lenS_op (S := (l, false)) rfl]
  unfold lenS pln
  have hl : (l.take (l.length - 1)).length = l.length - 1 := by rw [List.length_take]; omega
  have hp : pcs (l.take (l.length - 1), true) = l.length - 1 := hl
  rw [hp]
  refine sm_cg _ (fun i hi => ?_)
  show dst (pg (l.take (l.length - 1)) i) (pr (l.take (l.length - 1)) (i + 1)) = _
  rw [pg_take _ hi]
  congr 1
  unfold pr
  rw [hl]
  by_cases c : i + 1 < l.length - 1
  · rw [if_pos c, pg_take _ c]
  · rw [if_neg c, pg_take _ (by omega), he]
    congr 1; omega
theorem sm_rev (f : Nat → Int) : ∀ n : Nat, sm (fun i => f (n - 1 - i)) n = sm f n := by
  intro n
  induction n with
  | zero => rfl
  | succ n ih =>
    rw [sm_front, sm_s]
    rw [show n + 1 - 1 - 0 = n by omega, ← ih]
    rw [sm_cg (f := fun k => f (n + 1 - 1 - (k + 1))) (g := fun i => f (n - 1 - i)) n (fun i hi => by show f _ = f _; congr 1; omega)]
    omega
theorem pln_rvi (z : Bool) (l : List Int) : pln (rvi z l) = pln l := by
  unfold pln
  rw [rvi_len]
  by_cases h : z = true
  · rw [← sm_rev (fun i => dst (pg l i) (pg l (i + 1)))]
    refine sm_cg _ (fun i hi => ?_)
    show dst _ _ = dst _ _
    rw [pg_rvi z l (by omega), pg_rvi z l (by omega), if_pos h, if_pos h, dst_comm]
    congr 2 <;> omega
  · refine sm_cg _ (fun i hi => ?_)
    show dst _ _ = dst _ _
    rw [pg_rvi z l (by omega), pg_rvi z l (by omega), if_neg h, if_neg h]
theorem sm_cat (f : Nat → Int) (a : Nat) : ∀ b : Nat, sm f (a + b) = sm f a + sm (fun i => f (a + i)) b := by
  intro b
  induction b with
  | zero => rw [sm_z]; show sm f a = _; omega
  | succ b ih =>
    show sm f (a + b + 1) = _
    rw [sm_s, ih, sm_s]; omega
theorem pln_jnl {Ss : List Stk} (w : wfD Ss) {e f : Nat} (h : jv Ss e f) (hne : e / 2 ≠ f / 2) : pln (jnl Ss e f) = pln (sg Ss (e / 2)).1 + pln (sg Ss (f / 2)).1 := by
  obtain ⟨h1, h2, h3, h4, h5, h6⟩ := h
  obtain ⟨e1, e2, e3, e4, e5, e6⟩ := wfD_e w h2
  obtain ⟨f1, f2, f3, f4, f5, f6⟩ := wfD_e w h3
  have le := ep_rvi w h2
  have lf := ep_rvi w h3
  have hl := jnl_len w h2 h3
  have hez : ez Ss e = (sg Ss (e / 2)).1.length := rfl
  have hfz : ez Ss f = (sg Ss (f / 2)).1.length := rfl
  rw [← pln_rvi (decide (e % 2 = 0)) (sg Ss (e / 2)).1, ← pln_rvi (decide (f % 2 = 1)) (sg Ss (f / 2)).1]
  unfold pln
  rw [hl, rvi_len, rvi_len, ← hez, ← hfz, show ez Ss e + ez Ss f - 1 - 1 = ez Ss e - 1 + (ez Ss f - 1) by omega, sm_cat]
  congr 1
  · refine sm_cg _ (fun i hi => ?_)
    show dst _ _ = dst _ _
    rw [jnl_pg w h2 h3, jnl_pg w h2 h3, if_pos (by omega), if_pos (by omega)]
  · refine sm_cg _ (fun i hi => ?_)
    show dst (pg (jnl Ss e f) (ez Ss e - 1 + i)) (pg (jnl Ss e f) (ez Ss e - 1 + i + 1)) = dst _ _
    rw [jnl_pg w h2 h3, jnl_pg w h2 h3, if_neg (show ¬ ez Ss e - 1 + i + 1 < ez Ss e by omega), show ez Ss e - 1 + i + 1 + 1 - ez Ss e = i + 1 by omega]
    by_cases c : i = 0
    · subst c
      rw [if_pos (by omega), show ez Ss e - 1 + 0 = ez Ss e - 1 by omega, le.1, h4, ← lf.2]
    · rw [if_neg (by omega), show ez Ss e - 1 + i + 1 - ez Ss e = i by omega]
def nP (S : Stk) : Int := S.1.length
theorem jap_tot {Ss : List Stk} (w : wfD Ss) {e f : Nat} (h : jv Ss e f) : tot lenS (jap Ss e f) = tot lenS Ss ∧ tot nP (jap Ss e f) + 1 = tot nP Ss ∧ (jap Ss e f).length ≤ Ss.length ∧ Ss.length ≤ (jap Ss e f).length + 1 ∧ 1 ≤ (jap Ss e f).length := by
  have h' := h
  obtain ⟨h1, h2, h3, h4, h5, h6⟩ := h
  obtain ⟨e1, e2, e3, e4, e5, e6⟩ := wfD_e w h2
  obtain ⟨f1, f2, f3, f4, f5, f6⟩ := wfD_e w h3
  have he : e / 2 < Ss.length := by have := h2.1; omega
  have hf : f / 2 < Ss.length := by have := h3.1; omega
  have hez : ez Ss e = (sg Ss (e / 2)).1.length := rfl
  have hfz : ez Ss f = (sg Ss (f / 2)).1.length := rfl
  unfold jap
  by_cases c : e / 2 = f / 2
  · rw [if_pos c]
    have h44 := h5 c
    have eS : sg Ss (e / 2) = ((sg Ss (e / 2)).1, false) := by rw [← h2.2]
    have hz : pg (sg Ss (e / 2)).1 0 = pg (sg Ss (e / 2)).1 ((sg Ss (e / 2)).1.length - 1) := by
      have hp : e % 2 = 0 ∧ f % 2 = 1 := by omega
      have q1 : ep Ss e = pg (sg Ss (e / 2)).1 0 := by unfold ep eI; rw [if_pos hp.1]
      have q2 : ep Ss f = pg (sg Ss (e / 2)).1 ((sg Ss (e / 2)).1.length - 1) := by unfold ep eI; rw [if_neg (by omega), ← c]
      rw [← q1, ← q2, h4]
    rw [tot_set _ _ he, tot_set _ _ he, List.length_set]
    have k1 : lenS ((sg Ss (e / 2)).1.take ((sg Ss (e / 2)).1.length - 1), true) = lenS (sg Ss (e / 2)) := by
      rw [lenS_shut (by omega) hz, ← eS]
    have k2 : nP ((sg Ss (e / 2)).1.take ((sg Ss (e / 2)).1.length - 1), true) + 1 = nP (sg Ss (e / 2)) := by
      show ((List.take _ _).length : Int) + 1 = ((sg Ss (e / 2)).1.length : Int)
      rw [List.length_take]; omega
    omega
  · rw [if_neg c]
    have hl9 : (Ss.set (e / 2) (jnl Ss e f, false)).length = Ss.length := List.length_set
    have hf9 : f / 2 < (Ss.set (e / 2) (jnl Ss e f, false)).length := by omega
    have hsf : sg (Ss.set (e / 2) (jnl Ss e f, false)) (f / 2) = sg Ss (f / 2) := by rw [sg_set _ _ _ he, if_neg (fun q => c q.symm)]
    rw [tot_erase _ hf9, tot_erase _ hf9, tot_set _ _ he, tot_set _ _ he, hsf, List.length_eraseIdx_of_lt hf9, hl9]
    have k1 : lenS (jnl Ss e f, false) = lenS (sg Ss (e / 2)) + lenS (sg Ss (f / 2)) := by
      rw [lenS_op rfl, lenS_op h2.2, lenS_op h3.2]
      exact pln_jnl w h' c
    have k2 : nP (jnl Ss e f, false) + 1 = nP (sg Ss (e / 2)) + nP (sg Ss (f / 2)) := by
      show ((jnl Ss e f).length : Int) + 1 = ((sg Ss (e / 2)).1.length : Int) + ((sg Ss (f / 2)).1.length : Int)
      rw [jnl_len w h2 h3]; omega
    omega
theorem jit_tot : ∀ (k : Nat) (Ss S' : List Stk), wfD Ss → jit k Ss S' → tot lenS S' = tot lenS Ss ∧ tot nP S' + k = tot nP Ss ∧ S'.length ≤ Ss.length ∧ Ss.length ≤ S'.length + k ∧ (1 ≤ Ss.length → 1 ≤ S'.length) := by
  intro k
  induction k with
  | zero =>
    intro Ss S' w h
    obtain ⟨e, h⟩ := h
    subst e
    exact ⟨rfl, by omega, Nat.le_refl _, by omega, id⟩
  | succ k ih =>
    intro Ss S' w h
    obtain ⟨e, f, hb, h⟩ := h
    have w2 := (jap_ok w hb.1).1
    obtain ⟨g1, g2, g3, g4, g5⟩ := jap_tot w hb.1
    obtain ⟨i1, i2, i3, i4, i5⟩ := ih _ _ w2 h
    refine ⟨by omega, by omega, by omega, by omega, fun _ => i5 g5⟩
theorem joinF_tot {Ss : List Stk} (w : wfD Ss) (h1 : 1 ≤ Ss.length) : tot lenS (joinF Ss) = tot lenS Ss ∧ (joinF Ss).length ≤ Ss.length ∧ 1 ≤ (joinF Ss).length ∧ (Ss.length : Int) - (joinF Ss).length ≤ tot nP Ss - tot nP (joinF Ss) := by
  obtain ⟨k, hk⟩ := joinF_ok w
  obtain ⟨i1, i2, i3, i4, i5⟩ := jit_tot k _ _ w hk
  exact ⟨i1, i3, i5 h1, by omega⟩
