/-! ===== joining: one join, and joins until none is left ===== -/
def jv (Ss : List Stk) (e f : Nat) : Prop := e < f ∧ eo Ss e ∧ eo Ss f ∧ ep Ss e = ep Ss f ∧ (e / 2 = f / 2 → 4 ≤ ez Ss e) ∧ (e / 2 ≠ f / 2 → ez Ss e + ez Ss f ≤ 31)
def jb (Ss : List Stk) (e f : Nat) : Prop := jv Ss e f ∧ ∀ e' f', jv Ss e' f' → 20 * e + f ≤ 20 * e' + f'
def rvi (z : Bool) (l : List Int) : List Int := if z = true then l.reverse else l
theorem rvi_len (z : Bool) (l : List Int) : (rvi z l).length = l.length := by unfold rvi; split <;> simp
def jnl (Ss : List Stk) (e f : Nat) : List Int := rvi (decide (e % 2 = 0)) (sg Ss (e / 2)).1 ++ (rvi (decide (f % 2 = 1)) (sg Ss (f / 2)).1).tail
def jap (Ss : List Stk) (e f : Nat) : List Stk := if e / 2 = f / 2 then Ss.set (e / 2) ((sg Ss (e / 2)).1.take ((sg Ss (e / 2)).1.length - 1), true) else (Ss.set (e / 2) (jnl Ss e f, false)).eraseIdx (f / 2)
def jit (k : Nat) (Ss Ss' : List Stk) : Prop := match k with
  | 0 => Ss' = Ss ∧ ¬ ∃ e f, jv Ss e f
  | k + 1 => ∃ e f, jb Ss e f ∧ jit k (jap Ss e f) Ss'
theorem jb_un {Ss : List Stk} (w : wfD Ss) {e f e' f' : Nat} (h : jb Ss e f) (h' : jb Ss e' f') : e = e' ∧ f = f' := by
  have h1 := h.2 e' f' h'.1
  have h2 := h'.2 e f h.1
  have a1 := wfD_e w h.1.2.1
  have a2 := wfD_e w h.1.2.2.1
  have a3 := wfD_e w h'.1.2.1
  have a4 := wfD_e w h'.1.2.2.1
  omega
theorem jb_ex {Ss : List Stk} (h : ∃ e f, jv Ss e f) : ∃ e f, jb Ss e f := by
  obtain ⟨e, f, h⟩ := h
  obtain ⟨q, h1, h2⟩ := least_of (fun q : Nat × Nat => jv Ss q.1 q.2) (fun q => ((20 * q.1 + q.2 : Nat) : Int)) (fun q hq => by omega) ⟨(e, f), h⟩
  exact ⟨q.1, q.2, h1, fun e' f' h' => by have := h2 (e', f') h'; dsimp only at this; omega⟩
theorem pg_rvi (z : Bool) (l : List Int) {i : Nat} (h : i < l.length) : pg (rvi z l) i = if z = true then pg l (l.length - 1 - i) else pg l i := by
  unfold rvi
  split
  · exact pg_rev _ h
  · rfl
theorem pg_tail (l : List Int) (i : Nat) : pg l.tail i = pg l (i + 1) := by
  unfold pg
  rw [List.getD_eq_getElem?_getD, List.getD_eq_getElem?_getD, List.getElem?_tail]
theorem jnl_len {Ss : List Stk} (w : wfD Ss) {e f : Nat} (h : eo Ss e) (h' : eo Ss f) : (jnl Ss e f).length = ez Ss e + ez Ss f - 1 := by
  have a2 := wfD_e w h'
  unfold jnl
  rw [List.length_append, List.length_tail, rvi_len, rvi_len]
  unfold ez at a2 ⊢
  omega
/-- the joined row, place by place: first the one stroke up to the common point, then the other one behind it -/
theorem jnl_pg {Ss : List Stk} (w : wfD Ss) {e f : Nat} (h : eo Ss e) (h' : eo Ss f) (k : Nat) : pg (jnl Ss e f) k = if k < ez Ss e then pg (rvi (decide (e % 2 = 0)) (sg Ss (e / 2)).1) k else pg (rvi (decide (f % 2 = 1)) (sg Ss (f / 2)).1) (k + 1 - ez Ss e) := by
  unfold jnl ez
  by_cases c : k < (sg Ss (e / 2)).1.length
  · rw [if_pos c, pg_app_l _ _ (by rw [rvi_len]; exact c)]
  · rw [if_neg c, pg_app_r _ _ (by rw [rvi_len]; omega), rvi_len, pg_tail]
    congr 1
    omega
theorem rvi_wf {S : Stk} (w : wfS S) (z : Bool) : stP (rvi z S.1) ∧ ∀ i, i + 1 < S.1.length → pg (rvi z S.1) i ≠ pg (rvi z S.1) (i + 1) := by
  obtain ⟨w1, w2, w3, w4, w5⟩ := w
  refine ⟨fun i hi => ?_, fun i hi => ?_⟩
  · rw [rvi_len] at hi
    rw [pg_rvi _ _ hi]
    split <;> exact w3 _ (by omega)
  · rw [pg_rvi _ _ (by omega), pg_rvi _ _ (by omega)]
    split
    · have := w4 (S.1.length - 1 - (i + 1)) (by omega)
      rw [show S.1.length - 1 - (i + 1) + 1 = S.1.length - 1 - i by omega] at this
      exact fun q => this q.symm
    · exact w4 i hi
theorem ep_rvi {Ss : List Stk} (w : wfD Ss) {e : Nat} (h : eo Ss e) : pg (rvi (decide (e % 2 = 0)) (sg Ss (e / 2)).1) (ez Ss e - 1) = ep Ss e ∧ pg (rvi (decide (e % 2 = 1)) (sg Ss (e / 2)).1) 0 = ep Ss e := by
  have a := wfD_e w h
  unfold ep eI
  unfold ez at a ⊢
  rw [pg_rvi _ _ (by omega), pg_rvi _ _ (by omega)]
  by_cases c : e % 2 = 0
  · have c1 : decide (e % 2 = 0) = true := by simpa using c
    have c2 : ¬ decide (e % 2 = 1) = true := by simp only [decide_eq_true_eq]; omega
    rw [if_pos c1, if_neg c2, if_pos c]
    exact ⟨by congr 1; omega, rfl⟩
  · have c1 : ¬ decide (e % 2 = 0) = true := by simpa using c
    have c2 : decide (e % 2 = 1) = true := by simp only [decide_eq_true_eq]; omega
    rw [if_neg c1, if_pos c2, if_neg c]
    exact ⟨rfl, rfl⟩
theorem jap_ok {Ss : List Stk} (w : wfD Ss) {e f : Nat} (h : jv Ss e f) : wfD (jap Ss e f) ∧ oc (jap Ss e f) (jap Ss e f).length + 1 = oc Ss Ss.length := by
  obtain ⟨h1, h2, h3, h4, h5, h6⟩ := h
  have a1 := wfD_e w h2
  have a2 := wfD_e w h3
  have hl1 := h2.1
  have hl2 := h3.1
  have w0 := w.1
  unfold jap
  by_cases c : e / 2 = f / 2
  · rw [if_pos c]
    have h7 := h5 c
    obtain ⟨w1, w2, w3, w4, w5⟩ := w.2 (e / 2) (by omega)
    have he : e % 2 = 0 ∧ f % 2 = 1 := by omega
    have hsg : ∀ i, sg (Ss.set (e / 2) ((sg Ss (e / 2)).1.take ((sg Ss (e / 2)).1.length - 1), true)) i = if i = e / 2 then ((sg Ss (e / 2)).1.take ((sg Ss (e / 2)).1.length - 1), true) else sg Ss i := fun i => sg_set _ _ _ (by omega) i
    unfold ez at h7
    have heq : pg (sg Ss (e / 2)).1 0 = pg (sg Ss (e / 2)).1 ((sg Ss (e / 2)).1.length - 1) := by
      unfold ep eI at h4
      rw [if_pos he.1, if_neg (by omega), ← c] at h4
      exact h4
    refine ⟨⟨by rw [List.length_set]; exact w.1, fun i hi => ?_⟩, ?_⟩
    · rw [List.length_set] at hi
      rw [hsg]
      split
      · refine ⟨?_, ?_, fun k hk => ?_, fun k hk => ?_, fun _ => ⟨?_, ?_⟩⟩
        · simp; omega
        · simp; omega
        · simp at hk
          show pt (pg ((sg Ss (e / 2)).1.take _) k)
          rw [pg_take _ (by omega)]
          exact w3 k (by omega)
        · simp at hk
          show pg ((sg Ss (e / 2)).1.take _) k ≠ pg ((sg Ss (e / 2)).1.take _) (k + 1)
          rw [pg_take _ (by omega), pg_take _ (by omega)]
          exact w4 k (by omega)
        · simp; omega
        · show pg ((sg Ss (e / 2)).1.take _) 0 ≠ pg ((sg Ss (e / 2)).1.take _) (((sg Ss (e / 2)).1.take _).length - 1)
          rw [List.length_take, pg_take _ (by omega), pg_take _ (by omega), heq]
          have := w4 ((sg Ss (e / 2)).1.length - 2) (by omega)
          rw [show (sg Ss (e / 2)).1.length - 2 + 1 = (sg Ss (e / 2)).1.length - 1 by omega] at this
          rw [show min ((sg Ss (e / 2)).1.length - 1) (sg Ss (e / 2)).1.length - 1 = (sg Ss (e / 2)).1.length - 2 by omega]
          exact fun q => this q.symm
      · exact w.2 i hi
    · rw [List.length_set]
      have key : ∀ n, oc (Ss.set (e / 2) ((sg Ss (e / 2)).1.take ((sg Ss (e / 2)).1.length - 1), true)) n + (if e / 2 < n then 1 else 0) = oc Ss n := by
        intro n
        induction n with
        | zero => rw [if_neg (by omega)]; rfl
        | succ n ih =>
          unfold oc
          rw [hsg]
          by_cases d : n = e / 2
          · rw [if_pos d, if_pos rfl, d, h2.2, if_neg (show ¬ (false = true) by decide), if_pos (show e / 2 < e / 2 + 1 by omega)]
            rw [if_neg (by omega), d] at ih
            omega
          · rw [if_neg d, ← ih]
            by_cases d2 : e / 2 < n
            · rw [if_pos d2, if_pos (show e / 2 < n + 1 by omega)]; omega
            · rw [if_neg d2, if_neg (show ¬ e / 2 < n + 1 by omega)]; omega
      have := key Ss.length
      rw [if_pos (by omega)] at this
      exact this
  · rw [if_neg c]
    have h7 := h6 c
    have hz := jnl_len w h2 h3
    have hsg : ∀ i, sg (Ss.set (e / 2) (jnl Ss e f, false)) i = if i = e / 2 then (jnl Ss e f, false) else sg Ss i := fun i => sg_set _ _ _ (by omega) i
    have hle : ((Ss.set (e / 2) (jnl Ss e f, false)).eraseIdx (f / 2)).length = Ss.length - 1 := by
      rw [List.length_eraseIdx, List.length_set, if_pos (by omega)]
    have wj : wfS (jnl Ss e f, false) := by
      have v1 := rvi_wf (w.2 (e / 2) (by omega)) (decide (e % 2 = 0))
      have v2 := rvi_wf (w.2 (f / 2) (by omega)) (decide (f % 2 = 1))
      have u1 := ep_rvi w h2
      have u2 := ep_rvi w h3
      have z1 : ez Ss e = (sg Ss (e / 2)).1.length := rfl
      have z2 : ez Ss f = (sg Ss (f / 2)).1.length := rfl
      refine ⟨by show 2 ≤ (jnl Ss e f).length; omega, by show (jnl Ss e f).length ≤ 30; omega, fun k hk => ?_, fun k hk => ?_, fun q => by cases q⟩
      · replace hk : k < (jnl Ss e f).length := hk
        show pt (pg (jnl Ss e f) k)
        rw [jnl_pg w h2 h3]
        split
        · exact v1.1 k (by rw [rvi_len]; omega)
        · exact v2.1 _ (by rw [rvi_len]; omega)
      · replace hk : k + 1 < (jnl Ss e f).length := hk
        show pg (jnl Ss e f) k ≠ pg (jnl Ss e f) (k + 1)
        rw [jnl_pg w h2 h3, jnl_pg w h2 h3]
        by_cases d : k + 1 < ez Ss e
        · rw [if_pos (by omega), if_pos d]; exact v1.2 k (by omega)
        · rw [if_neg d]
          by_cases d2 : k < ez Ss e
          · rw [if_pos d2, show k = ez Ss e - 1 by omega, u1.1, h4, ← u2.2, show ez Ss e - 1 + 1 + 1 - ez Ss e = 0 + 1 by omega]
            exact v2.2 0 (by omega)
          · rw [if_neg d2, show k + 1 + 1 - ez Ss e = (k + 1 - ez Ss e) + 1 by omega]
            exact v2.2 _ (by omega)
    refine ⟨⟨by rw [hle]; omega, fun i hi => ?_⟩, ?_⟩
    · rw [hle] at hi
      rw [sg_erase, hsg, hsg]
      by_cases d1 : i < f / 2
      · rw [if_pos d1]
        split
        · exact wj
        · exact w.2 i (by omega)
      · rw [if_neg d1]
        split
        · exact wj
        · exact w.2 (i + 1) (by omega)
    · rw [hle]
      have k1 : ∀ n, oc (Ss.set (e / 2) (jnl Ss e f, false)) n = oc Ss n := oc_cg (fun i => by
        rw [hsg]
        split
        · next q => rw [q, h2.2]
        · rfl)
      have k2 : ∀ n, n ≤ f / 2 → oc ((Ss.set (e / 2) (jnl Ss e f, false)).eraseIdx (f / 2)) n = oc Ss n := by
        intro n
        induction n with
        | zero => intro _; rfl
        | succ n ih =>
          intro hn
          have : oc (Ss.set (e / 2) (jnl Ss e f, false)) (n + 1) = oc Ss (n + 1) := k1 (n + 1)
          have hs : sg ((Ss.set (e / 2) (jnl Ss e f, false)).eraseIdx (f / 2)) n = sg (Ss.set (e / 2) (jnl Ss e f, false)) n := by rw [sg_erase, if_pos (show n < f / 2 by omega)]
          rw [← this]
          unfold oc
          rw [ih (by omega), hs, k1]
      have k3 : ∀ n, f / 2 ≤ n → oc ((Ss.set (e / 2) (jnl Ss e f, false)).eraseIdx (f / 2)) n + 1 = oc Ss (n + 1) := by
        intro n
        induction n with
        | zero =>
          intro hn
          rw [k2 0 (by omega), ← show f / 2 = 0 by omega, oc_op h3.2]
        | succ n ih =>
          intro hn
          by_cases d : f / 2 = n + 1
          · rw [k2 _ (by omega), ← d, oc_op h3.2]
          · have h8 := ih (by omega)
            have h9 : oc (Ss.set (e / 2) (jnl Ss e f, false)) (n + 1 + 1) = oc Ss (n + 1 + 1) := k1 (n + 1 + 1)
            have h10 : oc (Ss.set (e / 2) (jnl Ss e f, false)) (n + 1 + 1) = oc (Ss.set (e / 2) (jnl Ss e f, false)) (n + 1) + (if (sg (Ss.set (e / 2) (jnl Ss e f, false)) (n + 1)).2 = true then 0 else 1) := rfl
            have h11 : oc ((Ss.set (e / 2) (jnl Ss e f, false)).eraseIdx (f / 2)) (n + 1) = oc ((Ss.set (e / 2) (jnl Ss e f, false)).eraseIdx (f / 2)) n + (if (sg ((Ss.set (e / 2) (jnl Ss e f, false)).eraseIdx (f / 2)) n).2 = true then 0 else 1) := rfl
            have hs : sg ((Ss.set (e / 2) (jnl Ss e f, false)).eraseIdx (f / 2)) n = sg (Ss.set (e / 2) (jnl Ss e f, false)) (n + 1) := by rw [sg_erase, if_neg (show ¬ n < f / 2 by omega)]
            rw [hs] at h11
            have h12 := k1 (n + 1)
            omega
      have := k3 (Ss.length - 1) (by omega)
      rw [show Ss.length - 1 + 1 = Ss.length by omega] at this
      exact this
theorem jit_un : ∀ (k k' : Nat) (Ss S1 S2 : List Stk), wfD Ss → jit k Ss S1 → jit k' Ss S2 → k = k' ∧ S1 = S2 := by
  intro k
  induction k with
  | zero =>
    intro k' Ss S1 S2 w h1 h2
    cases k' with
    | zero => exact ⟨rfl, h1.1.trans h2.1.symm⟩
    | succ k' =>
      obtain ⟨e, f, h3, _⟩ := h2
      exact absurd ⟨e, f, h3.1⟩ h1.2
  | succ k ih =>
    intro k' Ss S1 S2 w h1 h2
    obtain ⟨e, f, h3, h4⟩ := h1
    cases k' with
    | zero => exact absurd ⟨e, f, h3.1⟩ h2.2
    | succ k' =>
      obtain ⟨e', f', h5, h6⟩ := h2
      obtain ⟨rfl, rfl⟩ := jb_un w h3 h5
      obtain ⟨e1, e2⟩ := ih k' _ S1 S2 (jap_ok w h3.1).1 h4 h6
      exact ⟨by omega, e2⟩
theorem jit_ex : ∀ (n : Nat) (Ss : List Stk), wfD Ss → oc Ss Ss.length ≤ n → ∃ k S', jit k Ss S' := by
  intro n
  induction n with
  | zero =>
    intro Ss w hn
    refine ⟨0, Ss, rfl, fun q => ?_⟩
    obtain ⟨e, f, h⟩ := q
    have := (jap_ok w h).2
    omega
  | succ n ih =>
    intro Ss w hn
    by_cases c : ∃ e f, jv Ss e f
    · obtain ⟨e, f, h⟩ := jb_ex c
      have := (jap_ok w h.1).2
      obtain ⟨k, S', h2⟩ := ih (jap Ss e f) (jap_ok w h.1).1 (by omega)
      exact ⟨k + 1, S', e, f, h, h2⟩
    · exact ⟨0, Ss, rfl, c⟩
theorem jit_ok : ∀ (k : Nat) (Ss S' : List Stk), wfD Ss → jit k Ss S' → wfD S' ∧ k + oc S' S'.length = oc Ss Ss.length := by
  intro k
  induction k with
  | zero =>
    intro Ss S' w h
    rw [h.1]
    exact ⟨w, by omega⟩
  | succ k ih =>
    intro Ss S' w h
    obtain ⟨e, f, h3, h4⟩ := h
    have := (jap_ok w h3.1).2
    obtain ⟨a1, a2⟩ := ih _ S' (jap_ok w h3.1).1 h4
    exact ⟨a1, by omega⟩
noncomputable def joinF (Ss : List Stk) : List Stk := (Classical.epsilon (fun q : Nat × List Stk => jit q.1 Ss q.2)).2
theorem joinF_ok {Ss : List Stk} (w : wfD Ss) : ∃ k, jit k Ss (joinF Ss) := by
  obtain ⟨k, S', h⟩ := jit_ex _ Ss w (Nat.le_refl _)
  exact ⟨_, Classical.epsilon_spec (p := fun q : Nat × List Stk => jit q.1 Ss q.2) ⟨(k, S'), h⟩⟩
theorem joinF_un {Ss S' : List Stk} {k : Nat} (w : wfD Ss) (h : jit k Ss S') : joinF Ss = S' := by
  obtain ⟨k', h'⟩ := joinF_ok w
  exact (jit_un _ _ _ _ _ w h' h).2
/-! blocks of Joining_joinEnds -/
theorem ml_Joining_joinEnds : (g_m Joining_joinEnds).2.2.1 = 2 := rfl
theorem rt_Joining_joinEnds : (g_m Joining_joinEnds).2.2.2.1 = none := rfl
theorem B_Joining_joinEnds_0 {d mc ms cs ss : Nat} {L : List (Option Value)} {st : List Value} {h : g_H} {Q : g_Po} (hw : g_wp Joining_joinEnds d mc ms Q 2 [(0, 1, 0, 0, 0, 0, .iconst 0), (1, 1, 0, 0, 0, 0, .istore_n 1)] cs ss L st h) : G Joining_joinEnds d mc ms cs ss 0 L st h Q := G.run (by decide +kernel) hw
theorem B_Joining_joinEnds_2 {d mc ms cs ss : Nat} {L : List (Option Value)} {st : List Value} {h : g_H} {Q : g_Po} (hw : g_wp Joining_joinEnds d mc ms Q 8 [(2, 1, 0, 0, 0, 0, .iload_n 1), (3, 2, 0, 0, 0, 10, .bipush 10), (5, 3, 21, 0, 0, 0, .if_icmp .ge 16)] cs ss L st h) : G Joining_joinEnds d mc ms cs ss 2 L st h Q := G.run (by decide +kernel) hw
theorem B_Joining_joinEnds_8 {d mc ms cs ss : Nat} {L : List (Option Value)} {st : List Value} {h : g_H} {Q : g_Po} (hw : g_wp Joining_joinEnds d mc ms Q 12 [(8, 1, 0, 0, 0, 0, .aload_n 0), (9, 3, 10, 0, 2002, 1, .invokestatic 9)] cs ss L st h) : G Joining_joinEnds d mc ms cs ss 8 L st h Q := G.run (by decide +kernel) hw
theorem B_Joining_joinEnds_12 {d mc ms cs ss : Nat} {L : List (Option Value)} {st : List Value} {h : g_H} {Q : g_Po} (hw : g_wp Joining_joinEnds d mc ms Q 15 [(12, 3, 21, 0, 0, 0, .ifCond .eq 9)] cs ss L st h) : G Joining_joinEnds d mc ms cs ss 12 L st h Q := G.run (by decide +kernel) hw
theorem B_Joining_joinEnds_15 {d mc ms cs ss : Nat} {L : List (Option Value)} {st : List Value} {h : g_H} {Q : g_Po} (hw : g_wp Joining_joinEnds d mc ms Q 21 [(15, 3, 0, 0, 0, 1, .iinc 1 1), (18, 3, 2, 0, 0, 0, .goto (-16))] cs ss L st h) : G Joining_joinEnds d mc ms cs ss 15 L st h Q := G.run (by decide +kernel) hw
theorem B_Joining_joinEnds_21 {d mc ms cs ss : Nat} {L : List (Option Value)} {st : List Value} {h : g_H} {Q : g_Po} (hw : g_wp Joining_joinEnds d mc ms Q 22 [(21, 1, 0, 0, 0, 0, .return_)] cs ss L st h) : G Joining_joinEnds d mc ms cs ss 21 L st h Q := G.run (by decide +kernel) hw
/-! blocks of Joining_joinFirst -/
theorem ml_Joining_joinFirst : (g_m Joining_joinFirst).2.2.1 = 4 := rfl
theorem rt_Joining_joinFirst : (g_m Joining_joinFirst).2.2.2.1 = (some .boolean) := rfl
theorem B_Joining_joinFirst_0 {d mc ms cs ss : Nat} {L : List (Option Value)} {st : List Value} {h : g_H} {Q : g_Po} (hw : g_wp Joining_joinFirst d mc ms Q 2 [(0, 1, 0, 0, 0, 0, .iconst 0), (1, 1, 0, 0, 0, 0, .istore_n 1)] cs ss L st h) : G Joining_joinFirst d mc ms cs ss 0 L st h Q := G.run (by decide +kernel) hw
theorem B_Joining_joinFirst_2 {d mc ms cs ss : Nat} {L : List (Option Value)} {st : List Value} {h : g_H} {Q : g_Po} (hw : g_wp Joining_joinFirst d mc ms Q 12 [(2, 1, 0, 0, 0, 0, .iload_n 1), (3, 1, 0, 0, 0, 2, .iconst 2), (4, 1, 0, 0, 0, 0, .aload_n 0), (5, 3, 0, 2, 1060, 0, .getfield 15), (8, 1, 0, 0, 0, 0, .imul), (9, 3, 110, 0, 0, 0, .if_icmp .ge 101)] cs ss L st h) : G Joining_joinFirst d mc ms cs ss 2 L st h Q := G.run (by decide +kernel) hw
theorem B_Joining_joinFirst_12 {d mc ms cs ss : Nat} {L : List (Option Value)} {st : List Value} {h : g_H} {Q : g_Po} (hw : g_wp Joining_joinFirst d mc ms Q 16 [(12, 1, 0, 0, 0, 0, .iload_n 1), (13, 1, 0, 0, 0, 1, .iconst 1), (14, 1, 0, 0, 0, 0, .iadd), (15, 1, 0, 0, 0, 0, .istore_n 2)] cs ss L st h) : G Joining_joinFirst d mc ms cs ss 12 L st h Q := G.run (by decide +kernel) hw
theorem B_Joining_joinFirst_16 {d mc ms cs ss : Nat} {L : List (Option Value)} {st : List Value} {h : g_H} {Q : g_Po} (hw : g_wp Joining_joinFirst d mc ms Q 21 [(16, 1, 0, 0, 0, 0, .aload_n 0), (17, 1, 0, 0, 0, 0, .iload_n 1), (18, 3, 13, 0, 2005, 2, .invokestatic 21)] cs ss L st h) : G Joining_joinFirst d mc ms cs ss 16 L st h Q := G.run (by decide +kernel) hw
theorem B_Joining_joinFirst_21 {d mc ms cs ss : Nat} {L : List (Option Value)} {st : List Value} {h : g_H} {Q : g_Po} (hw : g_wp Joining_joinFirst d mc ms Q 24 [(21, 3, 104, 0, 0, 0, .ifCond .eq 83)] cs ss L st h) : G Joining_joinFirst d mc ms cs ss 21 L st h Q := G.run (by decide +kernel) hw
theorem B_Joining_joinFirst_24 {d mc ms cs ss : Nat} {L : List (Option Value)} {st : List Value} {h : g_H} {Q : g_Po} (hw : g_wp Joining_joinFirst d mc ms Q 34 [(24, 1, 0, 0, 0, 0, .iload_n 2), (25, 1, 0, 0, 0, 2, .iconst 2), (26, 1, 0, 0, 0, 0, .aload_n 0), (27, 3, 0, 2, 1060, 0, .getfield 15), (30, 1, 0, 0, 0, 0, .imul), (31, 3, 104, 0, 0, 0, .if_icmp .ge 73)] cs ss L st h) : G Joining_joinFirst d mc ms cs ss 24 L st h Q := G.run (by decide +kernel) hw
theorem B_Joining_joinFirst_34 {d mc ms cs ss : Nat} {L : List (Option Value)} {st : List Value} {h : g_H} {Q : g_Po} (hw : g_wp Joining_joinFirst d mc ms Q 39 [(34, 1, 0, 0, 0, 0, .aload_n 0), (35, 1, 0, 0, 0, 0, .iload_n 2), (36, 3, 13, 0, 2005, 2, .invokestatic 21)] cs ss L st h) : G Joining_joinFirst d mc ms cs ss 34 L st h Q := G.run (by decide +kernel) hw
theorem B_Joining_joinFirst_39 {d mc ms cs ss : Nat} {L : List (Option Value)} {st : List Value} {h : g_H} {Q : g_Po} (hw : g_wp Joining_joinFirst d mc ms Q 42 [(39, 3, 59, 0, 0, 0, .ifCond .eq 20)] cs ss L st h) : G Joining_joinFirst d mc ms cs ss 39 L st h Q := G.run (by decide +kernel) hw
theorem B_Joining_joinFirst_42 {d mc ms cs ss : Nat} {L : List (Option Value)} {st : List Value} {h : g_H} {Q : g_Po} (hw : g_wp Joining_joinFirst d mc ms Q 47 [(42, 1, 0, 0, 0, 0, .aload_n 0), (43, 1, 0, 0, 0, 0, .iload_n 1), (44, 3, 14, 0, 2009, 2, .invokestatic 25)] cs ss L st h) : G Joining_joinFirst d mc ms cs ss 42 L st h Q := G.run (by decide +kernel) hw
theorem B_Joining_joinFirst_47 {d mc ms cs ss : Nat} {L : List (Option Value)} {st : List Value} {h : g_H} {Q : g_Po} (hw : g_wp Joining_joinFirst d mc ms Q 52 [(47, 1, 0, 0, 0, 0, .aload_n 0), (48, 1, 0, 0, 0, 0, .iload_n 2), (49, 3, 14, 0, 2009, 2, .invokestatic 25)] cs ss L st h) : G Joining_joinFirst d mc ms cs ss 47 L st h Q := G.run (by decide +kernel) hw
theorem B_Joining_joinFirst_52 {d mc ms cs ss : Nat} {L : List (Option Value)} {st : List Value} {h : g_H} {Q : g_Po} (hw : g_wp Joining_joinFirst d mc ms Q 55 [(52, 3, 59, 0, 0, 0, .if_icmp .ne 7)] cs ss L st h) : G Joining_joinFirst d mc ms cs ss 52 L st h Q := G.run (by decide +kernel) hw
theorem B_Joining_joinFirst_55 {d mc ms cs ss : Nat} {L : List (Option Value)} {st : List Value} {h : g_H} {Q : g_Po} (hw : g_wp Joining_joinFirst d mc ms Q 59 [(55, 1, 0, 0, 0, 1, .iconst 1), (56, 3, 60, 0, 0, 0, .goto 4)] cs ss L st h) : G Joining_joinFirst d mc ms cs ss 55 L st h Q := G.run (by decide +kernel) hw
theorem B_Joining_joinFirst_59 {d mc ms cs ss : Nat} {L : List (Option Value)} {st : List Value} {h : g_H} {Q : g_Po} (hw : g_wp Joining_joinFirst d mc ms Q 60 [(59, 1, 0, 0, 0, 0, .iconst 0)] cs ss L st h) : G Joining_joinFirst d mc ms cs ss 59 L st h Q := G.run (by decide +kernel) hw
theorem B_Joining_joinFirst_60 {d mc ms cs ss : Nat} {L : List (Option Value)} {st : List Value} {h : g_H} {Q : g_Po} (hw : g_wp Joining_joinFirst d mc ms Q 65 [(60, 1, 0, 0, 0, 0, .istore_n 3), (61, 1, 0, 0, 0, 0, .iload_n 3), (62, 3, 98, 0, 0, 0, .ifCond .eq 36)] cs ss L st h) : G Joining_joinFirst d mc ms cs ss 60 L st h Q := G.run (by decide +kernel) hw
theorem B_Joining_joinFirst_65 {d mc ms cs ss : Nat} {L : List (Option Value)} {st : List Value} {h : g_H} {Q : g_Po} (hw : g_wp Joining_joinFirst d mc ms Q 74 [(65, 1, 0, 0, 0, 0, .iload_n 1), (66, 1, 0, 0, 0, 1, .iconst 1), (67, 1, 0, 0, 0, 0, .ishr), (68, 1, 0, 0, 0, 0, .iload_n 2), (69, 1, 0, 0, 0, 1, .iconst 1), (70, 1, 0, 0, 0, 0, .ishr), (71, 3, 87, 0, 0, 0, .if_icmp .ne 16)] cs ss L st h) : G Joining_joinFirst d mc ms cs ss 65 L st h Q := G.run (by decide +kernel) hw
theorem B_Joining_joinFirst_74 {d mc ms cs ss : Nat} {L : List (Option Value)} {st : List Value} {h : g_H} {Q : g_Po} (hw : g_wp Joining_joinFirst d mc ms Q 81 [(74, 1, 0, 0, 0, 0, .aload_n 0), (75, 1, 0, 0, 0, 0, .iload_n 1), (76, 1, 0, 0, 0, 1, .iconst 1), (77, 1, 0, 0, 0, 0, .ishr), (78, 3, 11, 0, 2017, 2, .invokestatic 29)] cs ss L st h) : G Joining_joinFirst d mc ms cs ss 74 L st h Q := G.run (by decide +kernel) hw
theorem B_Joining_joinFirst_81 {d mc ms cs ss : Nat} {L : List (Option Value)} {st : List Value} {h : g_H} {Q : g_Po} (hw : g_wp Joining_joinFirst d mc ms Q 84 [(81, 3, 98, 0, 0, 0, .ifCond .eq 17)] cs ss L st h) : G Joining_joinFirst d mc ms cs ss 81 L st h Q := G.run (by decide +kernel) hw
theorem B_Joining_joinFirst_84 {d mc ms cs ss : Nat} {L : List (Option Value)} {st : List Value} {h : g_H} {Q : g_Po} (hw : g_wp Joining_joinFirst d mc ms Q 87 [(84, 3, 96, 0, 0, 0, .goto 12)] cs ss L st h) : G Joining_joinFirst d mc ms cs ss 84 L st h Q := G.run (by decide +kernel) hw
theorem B_Joining_joinFirst_87 {d mc ms cs ss : Nat} {L : List (Option Value)} {st : List Value} {h : g_H} {Q : g_Po} (hw : g_wp Joining_joinFirst d mc ms Q 93 [(87, 1, 0, 0, 0, 0, .aload_n 0), (88, 1, 0, 0, 0, 0, .iload_n 1), (89, 1, 0, 0, 0, 0, .iload_n 2), (90, 3, 12, 0, 2030, 3, .invokestatic 32)] cs ss L st h) : G Joining_joinFirst d mc ms cs ss 87 L st h Q := G.run (by decide +kernel) hw
theorem B_Joining_joinFirst_93 {d mc ms cs ss : Nat} {L : List (Option Value)} {st : List Value} {h : g_H} {Q : g_Po} (hw : g_wp Joining_joinFirst d mc ms Q 96 [(93, 3, 98, 0, 0, 0, .ifCond .eq 5)] cs ss L st h) : G Joining_joinFirst d mc ms cs ss 93 L st h Q := G.run (by decide +kernel) hw
theorem B_Joining_joinFirst_96 {d mc ms cs ss : Nat} {L : List (Option Value)} {st : List Value} {h : g_H} {Q : g_Po} (hw : g_wp Joining_joinFirst d mc ms Q 98 [(96, 1, 0, 0, 0, 1, .iconst 1), (97, 1, 0, 0, 0, 0, .ireturn)] cs ss L st h) : G Joining_joinFirst d mc ms cs ss 96 L st h Q := G.run (by decide +kernel) hw
theorem B_Joining_joinFirst_98 {d mc ms cs ss : Nat} {L : List (Option Value)} {st : List Value} {h : g_H} {Q : g_Po} (hw : g_wp Joining_joinFirst d mc ms Q 104 [(98, 3, 0, 0, 0, 1, .iinc 2 1), (101, 3, 16, 0, 0, 0, .goto (-85))] cs ss L st h) : G Joining_joinFirst d mc ms cs ss 98 L st h Q := G.run (by decide +kernel) hw
theorem B_Joining_joinFirst_104 {d mc ms cs ss : Nat} {L : List (Option Value)} {st : List Value} {h : g_H} {Q : g_Po} (hw : g_wp Joining_joinFirst d mc ms Q 110 [(104, 3, 0, 0, 0, 1, .iinc 1 1), (107, 3, 2, 0, 0, 0, .goto (-105))] cs ss L st h) : G Joining_joinFirst d mc ms cs ss 104 L st h Q := G.run (by decide +kernel) hw
theorem B_Joining_joinFirst_110 {d mc ms cs ss : Nat} {L : List (Option Value)} {st : List Value} {h : g_H} {Q : g_Po} (hw : g_wp Joining_joinFirst d mc ms Q 112 [(110, 1, 0, 0, 0, 0, .iconst 0), (111, 1, 0, 0, 0, 0, .ireturn)] cs ss L st h) : G Joining_joinFirst d mc ms cs ss 110 L st h Q := G.run (by decide +kernel) hw
/-! blocks of Joining_closeUp -/
theorem ml_Joining_closeUp : (g_m Joining_closeUp).2.2.1 = 3 := rfl
theorem rt_Joining_closeUp : (g_m Joining_closeUp).2.2.2.1 = (some .boolean) := rfl
theorem B_Joining_closeUp_0 {d mc ms cs ss : Nat} {L : List (Option Value)} {st : List Value} {h : g_H} {Q : g_Po} (hw : g_wp Joining_closeUp d mc ms Q 5 [(0, 1, 0, 0, 0, 0, .aload_n 0), (1, 1, 0, 0, 0, 0, .iload_n 1), (2, 3, 1, 0, 2008, 1, .invokevirtual 36)] cs ss L st h) : G Joining_closeUp d mc ms cs ss 0 L st h Q := G.run (by decide +kernel) hw
theorem B_Joining_closeUp_5 {d mc ms cs ss : Nat} {L : List (Option Value)} {st : List Value} {h : g_H} {Q : g_Po} (hw : g_wp Joining_closeUp d mc ms Q 10 [(5, 1, 0, 0, 0, 0, .astore_n 2), (6, 1, 0, 0, 0, 0, .aload_n 2), (7, 3, 18, 0, 0, 0, .ifnull 11)] cs ss L st h) : G Joining_closeUp d mc ms cs ss 5 L st h Q := G.run (by decide +kernel) hw
theorem B_Joining_closeUp_10 {d mc ms cs ss : Nat} {L : List (Option Value)} {st : List Value} {h : g_H} {Q : g_Po} (hw : g_wp Joining_closeUp d mc ms Q 18 [(10, 1, 0, 0, 0, 0, .aload_n 2), (11, 3, 2, 1, 1040, 0, .getfield 40), (14, 1, 0, 0, 0, 4, .iconst 4), (15, 3, 20, 0, 0, 0, .if_icmp .ge 5)] cs ss L st h) : G Joining_closeUp d mc ms cs ss 10 L st h Q := G.run (by decide +kernel) hw
theorem B_Joining_closeUp_18 {d mc ms cs ss : Nat} {L : List (Option Value)} {st : List Value} {h : g_H} {Q : g_Po} (hw : g_wp Joining_closeUp d mc ms Q 20 [(18, 1, 0, 0, 0, 0, .iconst 0), (19, 1, 0, 0, 0, 0, .ireturn)] cs ss L st h) : G Joining_closeUp d mc ms cs ss 18 L st h Q := G.run (by decide +kernel) hw
theorem B_Joining_closeUp_20 {d mc ms cs ss : Nat} {L : List (Option Value)} {st : List Value} {h : g_H} {Q : g_Po} (hw : g_wp Joining_closeUp d mc ms Q 30 [(20, 1, 0, 0, 0, 0, .aload_n 2), (21, 1, 0, 0, 0, 0, .aload_n 2), (22, 3, 2, 1, 1040, 0, .getfield 40), (25, 1, 0, 0, 0, 1, .iconst 1), (26, 1, 0, 0, 0, 0, .isub), (27, 3, 37, 2, 2020, 1, .invokevirtual 43)] cs ss L st h) : G Joining_closeUp d mc ms cs ss 20 L st h Q := G.run (by decide +kernel) hw
theorem B_Joining_closeUp_30 {d mc ms cs ss : Nat} {L : List (Option Value)} {st : List Value} {h : g_H} {Q : g_Po} (hw : g_wp Joining_closeUp d mc ms Q 37 [(30, 1, 0, 0, 0, 0, .aload_n 2), (31, 1, 0, 0, 0, 1, .iconst 1), (32, 3, 2, 2, 1044, 1, .putfield 47), (35, 1, 0, 0, 0, 1, .iconst 1), (36, 1, 0, 0, 0, 0, .ireturn)] cs ss L st h) : G Joining_closeUp d mc ms cs ss 30 L st h Q := G.run (by decide +kernel) hw
/-! blocks of Joining_joinTwo -/
theorem ml_Joining_joinTwo : (g_m Joining_joinTwo).2.2.1 = 6 := rfl
theorem rt_Joining_joinTwo : (g_m Joining_joinTwo).2.2.2.1 = (some .boolean) := rfl
theorem B_Joining_joinTwo_0 {d mc ms cs ss : Nat} {L : List (Option Value)} {st : List Value} {h : g_H} {Q : g_Po} (hw : g_wp Joining_joinTwo d mc ms Q 7 [(0, 1, 0, 0, 0, 0, .aload_n 0), (1, 1, 0, 0, 0, 0, .iload_n 1), (2, 1, 0, 0, 0, 1, .iconst 1), (3, 1, 0, 0, 0, 0, .ishr), (4, 3, 1, 0, 2008, 1, .invokevirtual 36)] cs ss L st h) : G Joining_joinTwo d mc ms cs ss 0 L st h Q := G.run (by decide +kernel) hw
theorem B_Joining_joinTwo_7 {d mc ms cs ss : Nat} {L : List (Option Value)} {st : List Value} {h : g_H} {Q : g_Po} (hw : g_wp Joining_joinTwo d mc ms Q 15 [(7, 1, 0, 0, 0, 0, .astore_n 3), (8, 1, 0, 0, 0, 0, .aload_n 0), (9, 1, 0, 0, 0, 0, .iload_n 2), (10, 1, 0, 0, 0, 1, .iconst 1), (11, 1, 0, 0, 0, 0, .ishr), (12, 3, 1, 0, 2008, 1, .invokevirtual 36)] cs ss L st h) : G Joining_joinTwo d mc ms cs ss 7 L st h Q := G.run (by decide +kernel) hw
theorem B_Joining_joinTwo_15 {d mc ms cs ss : Nat} {L : List (Option Value)} {st : List Value} {h : g_H} {Q : g_Po} (hw : g_wp Joining_joinTwo d mc ms Q 21 [(15, 2, 0, 0, 0, 0, .astore 4), (17, 1, 0, 0, 0, 0, .aload_n 3), (18, 3, 41, 0, 0, 0, .ifnull 23)] cs ss L st h) : G Joining_joinTwo d mc ms cs ss 15 L st h Q := G.run (by decide +kernel) hw
theorem B_Joining_joinTwo_21 {d mc ms cs ss : Nat} {L : List (Option Value)} {st : List Value} {h : g_H} {Q : g_Po} (hw : g_wp Joining_joinTwo d mc ms Q 26 [(21, 2, 0, 0, 0, 0, .aload 4), (23, 3, 41, 0, 0, 0, .ifnull 18)] cs ss L st h) : G Joining_joinTwo d mc ms cs ss 21 L st h Q := G.run (by decide +kernel) hw
theorem B_Joining_joinTwo_26 {d mc ms cs ss : Nat} {L : List (Option Value)} {st : List Value} {h : g_H} {Q : g_Po} (hw : g_wp Joining_joinTwo d mc ms Q 41 [(26, 1, 0, 0, 0, 0, .aload_n 3), (27, 3, 2, 1, 1040, 0, .getfield 40), (30, 2, 0, 0, 0, 0, .aload 4), (32, 3, 2, 1, 1040, 0, .getfield 40), (35, 1, 0, 0, 0, 0, .iadd), (36, 2, 0, 0, 0, 31, .bipush 31), (38, 3, 43, 0, 0, 0, .if_icmp .le 5)] cs ss L st h) : G Joining_joinTwo d mc ms cs ss 26 L st h Q := G.run (by decide +kernel) hw
theorem B_Joining_joinTwo_41 {d mc ms cs ss : Nat} {L : List (Option Value)} {st : List Value} {h : g_H} {Q : g_Po} (hw : g_wp Joining_joinTwo d mc ms Q 43 [(41, 1, 0, 0, 0, 0, .iconst 0), (42, 1, 0, 0, 0, 0, .ireturn)] cs ss L st h) : G Joining_joinTwo d mc ms cs ss 41 L st h Q := G.run (by decide +kernel) hw
theorem B_Joining_joinTwo_43 {d mc ms cs ss : Nat} {L : List (Option Value)} {st : List Value} {h : g_H} {Q : g_Po} (hw : g_wp Joining_joinTwo d mc ms Q 49 [(43, 1, 0, 0, 0, 0, .iload_n 1), (44, 1, 0, 0, 0, 1, .iconst 1), (45, 1, 0, 0, 0, 0, .iand), (46, 3, 53, 0, 0, 0, .ifCond .ne 7)] cs ss L st h) : G Joining_joinTwo d mc ms cs ss 43 L st h Q := G.run (by decide +kernel) hw
theorem B_Joining_joinTwo_49 {d mc ms cs ss : Nat} {L : List (Option Value)} {st : List Value} {h : g_H} {Q : g_Po} (hw : g_wp Joining_joinTwo d mc ms Q 53 [(49, 1, 0, 0, 0, 0, .aload_n 3), (50, 3, 43, 2, 2033, 0, .invokevirtual 51)] cs ss L st h) : G Joining_joinTwo d mc ms cs ss 49 L st h Q := G.run (by decide +kernel) hw
theorem B_Joining_joinTwo_53 {d mc ms cs ss : Nat} {L : List (Option Value)} {st : List Value} {h : g_H} {Q : g_Po} (hw : g_wp Joining_joinTwo d mc ms Q 60 [(53, 1, 0, 0, 0, 0, .iload_n 2), (54, 1, 0, 0, 0, 1, .iconst 1), (55, 1, 0, 0, 0, 0, .iand), (56, 1, 0, 0, 0, 1, .iconst 1), (57, 3, 65, 0, 0, 0, .if_icmp .ne 8)] cs ss L st h) : G Joining_joinTwo d mc ms cs ss 53 L st h Q := G.run (by decide +kernel) hw
theorem B_Joining_joinTwo_60 {d mc ms cs ss : Nat} {L : List (Option Value)} {st : List Value} {h : g_H} {Q : g_Po} (hw : g_wp Joining_joinTwo d mc ms Q 65 [(60, 2, 0, 0, 0, 0, .aload 4), (62, 3, 43, 2, 2033, 0, .invokevirtual 51)] cs ss L st h) : G Joining_joinTwo d mc ms cs ss 60 L st h Q := G.run (by decide +kernel) hw
theorem B_Joining_joinTwo_65 {d mc ms cs ss : Nat} {L : List (Option Value)} {st : List Value} {h : g_H} {Q : g_Po} (hw : g_wp Joining_joinTwo d mc ms Q 68 [(65, 1, 0, 0, 0, 1, .iconst 1), (66, 2, 0, 0, 0, 0, .istore 5)] cs ss L st h) : G Joining_joinTwo d mc ms cs ss 65 L st h Q := G.run (by decide +kernel) hw
theorem B_Joining_joinTwo_68 {d mc ms cs ss : Nat} {L : List (Option Value)} {st : List Value} {h : g_H} {Q : g_Po} (hw : g_wp Joining_joinTwo d mc ms Q 78 [(68, 2, 0, 0, 0, 0, .iload 5), (70, 2, 0, 0, 0, 0, .aload 4), (72, 3, 2, 1, 1040, 0, .getfield 40), (75, 3, 95, 0, 0, 0, .if_icmp .ge 20)] cs ss L st h) : G Joining_joinTwo d mc ms cs ss 68 L st h Q := G.run (by decide +kernel) hw
theorem B_Joining_joinTwo_78 {d mc ms cs ss : Nat} {L : List (Option Value)} {st : List Value} {h : g_H} {Q : g_Po} (hw : g_wp Joining_joinTwo d mc ms Q 86 [(78, 1, 0, 0, 0, 0, .aload_n 3), (79, 2, 0, 0, 0, 0, .aload 4), (81, 2, 0, 0, 0, 0, .iload 5), (83, 3, 33, 2, 2037, 1, .invokevirtual 54)] cs ss L st h) : G Joining_joinTwo d mc ms cs ss 78 L st h Q := G.run (by decide +kernel) hw
theorem B_Joining_joinTwo_86 {d mc ms cs ss : Nat} {L : List (Option Value)} {st : List Value} {h : g_H} {Q : g_Po} (hw : g_wp Joining_joinTwo d mc ms Q 89 [(86, 3, 35, 2, 2038, 1, .invokevirtual 58)] cs ss L st h) : G Joining_joinTwo d mc ms cs ss 86 L st h Q := G.run (by decide +kernel) hw
theorem B_Joining_joinTwo_89 {d mc ms cs ss : Nat} {L : List (Option Value)} {st : List Value} {h : g_H} {Q : g_Po} (hw : g_wp Joining_joinTwo d mc ms Q 95 [(89, 3, 0, 0, 0, 1, .iinc 5 1), (92, 3, 68, 0, 0, 0, .goto (-24))] cs ss L st h) : G Joining_joinTwo d mc ms cs ss 89 L st h Q := G.run (by decide +kernel) hw
theorem B_Joining_joinTwo_95 {d mc ms cs ss : Nat} {L : List (Option Value)} {st : List Value} {h : g_H} {Q : g_Po} (hw : g_wp Joining_joinTwo d mc ms Q 102 [(95, 1, 0, 0, 0, 0, .aload_n 0), (96, 1, 0, 0, 0, 0, .iload_n 2), (97, 1, 0, 0, 0, 1, .iconst 1), (98, 1, 0, 0, 0, 0, .ishr), (99, 3, 4, 0, 2039, 1, .invokevirtual 61)] cs ss L st h) : G Joining_joinTwo d mc ms cs ss 95 L st h Q := G.run (by decide +kernel) hw
theorem B_Joining_joinTwo_102 {d mc ms cs ss : Nat} {L : List (Option Value)} {st : List Value} {h : g_H} {Q : g_Po} (hw : g_wp Joining_joinTwo d mc ms Q 104 [(102, 1, 0, 0, 0, 1, .iconst 1), (103, 1, 0, 0, 0, 0, .ireturn)] cs ss L st h) : G Joining_joinTwo d mc ms cs ss 102 L st h Q := G.run (by decide +kernel) hw
/-! blocks of Joining_isOpenEnd -/
theorem ml_Joining_isOpenEnd : (g_m Joining_isOpenEnd).2.2.1 = 3 := rfl
theorem rt_Joining_isOpenEnd : (g_m Joining_isOpenEnd).2.2.2.1 = (some .boolean) := rfl
theorem B_Joining_isOpenEnd_0 {d mc ms cs ss : Nat} {L : List (Option Value)} {st : List Value} {h : g_H} {Q : g_Po} (hw : g_wp Joining_isOpenEnd d mc ms Q 7 [(0, 1, 0, 0, 0, 0, .aload_n 0), (1, 1, 0, 0, 0, 0, .iload_n 1), (2, 1, 0, 0, 0, 1, .iconst 1), (3, 1, 0, 0, 0, 0, .ishr), (4, 3, 1, 0, 2008, 1, .invokevirtual 36)] cs ss L st h) : G Joining_isOpenEnd d mc ms cs ss 0 L st h Q := G.run (by decide +kernel) hw
theorem B_Joining_isOpenEnd_7 {d mc ms cs ss : Nat} {L : List (Option Value)} {st : List Value} {h : g_H} {Q : g_Po} (hw : g_wp Joining_isOpenEnd d mc ms Q 12 [(7, 1, 0, 0, 0, 0, .astore_n 2), (8, 1, 0, 0, 0, 0, .aload_n 2), (9, 3, 23, 0, 0, 0, .ifnull 14)] cs ss L st h) : G Joining_isOpenEnd d mc ms cs ss 7 L st h Q := G.run (by decide +kernel) hw
theorem B_Joining_isOpenEnd_12 {d mc ms cs ss : Nat} {L : List (Option Value)} {st : List Value} {h : g_H} {Q : g_Po} (hw : g_wp Joining_isOpenEnd d mc ms Q 19 [(12, 1, 0, 0, 0, 0, .aload_n 2), (13, 3, 2, 2, 1044, 1, .getfield 47), (16, 3, 23, 0, 0, 0, .ifCond .ne 7)] cs ss L st h) : G Joining_isOpenEnd d mc ms cs ss 12 L st h Q := G.run (by decide +kernel) hw
theorem B_Joining_isOpenEnd_19 {d mc ms cs ss : Nat} {L : List (Option Value)} {st : List Value} {h : g_H} {Q : g_Po} (hw : g_wp Joining_isOpenEnd d mc ms Q 23 [(19, 1, 0, 0, 0, 1, .iconst 1), (20, 3, 24, 0, 0, 0, .goto 4)] cs ss L st h) : G Joining_isOpenEnd d mc ms cs ss 19 L st h Q := G.run (by decide +kernel) hw
theorem B_Joining_isOpenEnd_23 {d mc ms cs ss : Nat} {L : List (Option Value)} {st : List Value} {h : g_H} {Q : g_Po} (hw : g_wp Joining_isOpenEnd d mc ms Q 24 [(23, 1, 0, 0, 0, 0, .iconst 0)] cs ss L st h) : G Joining_isOpenEnd d mc ms cs ss 23 L st h Q := G.run (by decide +kernel) hw
theorem B_Joining_isOpenEnd_24 {d mc ms cs ss : Nat} {L : List (Option Value)} {st : List Value} {h : g_H} {Q : g_Po} (hw : g_wp Joining_isOpenEnd d mc ms Q 25 [(24, 1, 0, 0, 0, 0, .ireturn)] cs ss L st h) : G Joining_isOpenEnd d mc ms cs ss 24 L st h Q := G.run (by decide +kernel) hw
/-! blocks of Joining_endOf -/
theorem ml_Joining_endOf : (g_m Joining_endOf).2.2.1 = 3 := rfl
theorem rt_Joining_endOf : (g_m Joining_endOf).2.2.2.1 = (some .int) := rfl
theorem B_Joining_endOf_0 {d mc ms cs ss : Nat} {L : List (Option Value)} {st : List Value} {h : g_H} {Q : g_Po} (hw : g_wp Joining_endOf d mc ms Q 7 [(0, 1, 0, 0, 0, 0, .aload_n 0), (1, 1, 0, 0, 0, 0, .iload_n 1), (2, 1, 0, 0, 0, 1, .iconst 1), (3, 1, 0, 0, 0, 0, .ishr), (4, 3, 1, 0, 2008, 1, .invokevirtual 36)] cs ss L st h) : G Joining_endOf d mc ms cs ss 0 L st h Q := G.run (by decide +kernel) hw
theorem B_Joining_endOf_7 {d mc ms cs ss : Nat} {L : List (Option Value)} {st : List Value} {h : g_H} {Q : g_Po} (hw : g_wp Joining_endOf d mc ms Q 12 [(7, 1, 0, 0, 0, 0, .astore_n 2), (8, 1, 0, 0, 0, 0, .aload_n 2), (9, 3, 14, 0, 0, 0, .ifnonnull 5)] cs ss L st h) : G Joining_endOf d mc ms cs ss 7 L st h Q := G.run (by decide +kernel) hw
theorem B_Joining_endOf_12 {d mc ms cs ss : Nat} {L : List (Option Value)} {st : List Value} {h : g_H} {Q : g_Po} (hw : g_wp Joining_endOf d mc ms Q 14 [(12, 1, 0, 0, 0, 0, .iconst 0), (13, 1, 0, 0, 0, 0, .ireturn)] cs ss L st h) : G Joining_endOf d mc ms cs ss 12 L st h Q := G.run (by decide +kernel) hw
theorem B_Joining_endOf_14 {d mc ms cs ss : Nat} {L : List (Option Value)} {st : List Value} {h : g_H} {Q : g_Po} (hw : g_wp Joining_endOf d mc ms Q 20 [(14, 1, 0, 0, 0, 0, .iload_n 1), (15, 1, 0, 0, 0, 1, .iconst 1), (16, 1, 0, 0, 0, 0, .iand), (17, 3, 27, 0, 0, 0, .ifCond .ne 10)] cs ss L st h) : G Joining_endOf d mc ms cs ss 14 L st h Q := G.run (by decide +kernel) hw
theorem B_Joining_endOf_20 {d mc ms cs ss : Nat} {L : List (Option Value)} {st : List Value} {h : g_H} {Q : g_Po} (hw : g_wp Joining_endOf d mc ms Q 24 [(20, 1, 0, 0, 0, 0, .aload_n 2), (21, 3, 39, 2, 2012, 0, .invokevirtual 64)] cs ss L st h) : G Joining_endOf d mc ms cs ss 20 L st h Q := G.run (by decide +kernel) hw
theorem B_Joining_endOf_24 {d mc ms cs ss : Nat} {L : List (Option Value)} {st : List Value} {h : g_H} {Q : g_Po} (hw : g_wp Joining_endOf d mc ms Q 27 [(24, 3, 31, 0, 0, 0, .goto 7)] cs ss L st h) : G Joining_endOf d mc ms cs ss 24 L st h Q := G.run (by decide +kernel) hw
theorem B_Joining_endOf_27 {d mc ms cs ss : Nat} {L : List (Option Value)} {st : List Value} {h : g_H} {Q : g_Po} (hw : g_wp Joining_endOf d mc ms Q 31 [(27, 1, 0, 0, 0, 0, .aload_n 2), (28, 3, 40, 2, 2016, 0, .invokevirtual 68)] cs ss L st h) : G Joining_endOf d mc ms cs ss 27 L st h Q := G.run (by decide +kernel) hw
theorem B_Joining_endOf_31 {d mc ms cs ss : Nat} {L : List (Option Value)} {st : List Value} {h : g_H} {Q : g_Po} (hw : g_wp Joining_endOf d mc ms Q 32 [(31, 1, 0, 0, 0, 0, .ireturn)] cs ss L st h) : G Joining_endOf d mc ms cs ss 31 L st h Q := G.run (by decide +kernel) hw
theorem I_sh1 {e : Nat} (h : e < 1000000) : I (e : Int) >>> (I 1 &&& 31) = I ((e / 2 : Nat) : Int) := by rw [I_shr1 (by omega) (by omega)]; rfl
theorem I_an1 {e : Nat} (h : e < 1000000) : I (e : Int) &&& I 1 = I ((e % 2 : Nat) : Int) := by rw [I_and1 (by omega) (by omega)]; rfl
theorem Jn_open_c {d dd e : Nat} (d1 : 1 ≤ d) {σ : Nat → Nat} {Ss : List Stk} {pn : Stk} {h : g_H} {Q : g_Po} (ha : drw h dd σ Ss pn) (he : e < 2 * Ss.length) (hT : (sg Ss (e / 2)).2 = false → Q (some (.int (I 1))) h) (hF : (sg Ss (e / 2)).2 = true → Q (some (.int (I 0))) h) : Call Joining_isOpenEnd d 0 0 [.ref dd, .int (I (e : Int))] h Q := by
  obtain ⟨a1, a2, ⟨f, a3, a4⟩, a5, a6, a7, a8, a9⟩ := id ha
  obtain ⟨g, k1, k2, k3⟩ := id (a9 (e / 2) (by omega))
  refine Call.intro (by rfl) (Nat.le_of_ble_eq_true rfl) ?_
  refine G.eqL (L := [some (.ref _), some (.int _), none]) rfl ?_
  refine B_Joining_isOpenEnd_0 ?_
  simp only [wp_cons, wp_nil, List.getElem?_cons_zero, List.getElem?_cons_succ, List.set_cons_zero, List.set_cons_succ, s_aload_n0, ldA_r, ldA_n, ldA_s, s_iload_n1, ldI_s, s_iconst, s_ishr, p2_s, s_invokevirtual, rc_s, ob_s, List.drop_succ_cons, List.drop_zero, List.take_succ_cons, List.take_zero, List.reverse_cons, List.reverse_nil, List.nil_append, List.cons_append, List.length_cons, List.length_nil, d1, Int.reduceToNat, Nat.reduceAdd, Nat.reduceLeDiff, true_and, and_true, Nat.le_refl, true_implies, forall_const, not_false_eq_true, false_implies, not_true_eq_false, reduceCtorEq, tl_s, tl_n, rf_s, true_or, or_true, a2, k1.1, I_sh1 (e := e) (by omega)]
  refine Drawing_find_c ha (by omega) ?_
  cases hz : (sg Ss (e / 2)).2 with
  | true =>
    have hz1 : sz (sg Ss (e / 2)).2 = 1 := by rw [hz]; rfl
    refine B_Joining_isOpenEnd_7 ?_
    simp only [wp_cons, wp_nil, List.getElem?_cons_zero, List.getElem?_cons_succ, List.set_cons_zero, List.set_cons_succ, s_astore_n2, pA_r, pA_n, s1_0, s1_s, kx_i, kx_r, kx_s, kx_n, kx_l, kx_0, s_aload_n2, ldA_r, ldA_n, ldA_s, s_ifnull, true_and, and_true, Nat.le_refl, true_implies, forall_const, not_false_eq_true, false_implies, not_true_eq_false, reduceCtorEq, tl_s, tl_n, rf_s, List.cons_append, List.nil_append, true_or, or_true, a2, k1.1, I_sh1 (e := e) (by omega)]
    refine B_Joining_isOpenEnd_12 ?_
    simp only [wp_cons, wp_nil, List.getElem?_cons_zero, List.getElem?_cons_succ, List.set_cons_zero, List.set_cons_succ, s_aload_n2, ldA_r, ldA_n, ldA_s, s_getfield, pR_s, ob_s, gt_s, s_ifCond_ne, p1_s, true_and, and_true, Nat.le_refl, true_implies, forall_const, not_false_eq_true, false_implies, not_true_eq_false, reduceCtorEq, tl_s, tl_n, rf_s, List.cons_append, List.nil_append, true_or, or_true, a2, k1.1, I_sh1 (e := e) (by omega)]
    refine b_ne (by omega) (by omega) (fun cc => ?_) (fun cc => absurd cc (by omega))
    refine B_Joining_isOpenEnd_23 ?_
    simp only [wp_cons, wp_nil, List.getElem?_cons_zero, List.getElem?_cons_succ, List.set_cons_zero, List.set_cons_succ, s_iconst, true_and, and_true, Nat.le_refl, true_implies, forall_const, not_false_eq_true, false_implies, not_true_eq_false, reduceCtorEq, tl_s, tl_n, rf_s, List.cons_append, List.nil_append, true_or, or_true, a2, k1.1, I_sh1 (e := e) (by omega)]
    refine B_Joining_isOpenEnd_24 ?_
    simp only [wp_cons, wp_nil, List.getElem?_cons_zero, List.getElem?_cons_succ, List.set_cons_zero, List.set_cons_succ, s_ireturn, p1_s, rI_i, rI_z, rI_c, z_01, z_11, rt_Joining_isOpenEnd, true_and, and_true, Nat.le_refl, true_implies, forall_const, not_false_eq_true, false_implies, not_true_eq_false, reduceCtorEq, tl_s, tl_n, rf_s, List.cons_append, List.nil_append, true_or, or_true, a2, k1.1, I_sh1 (e := e) (by omega)]
    exact hF hz
  | false =>
    have hz1 : sz (sg Ss (e / 2)).2 = 0 := by rw [hz]; rfl
    refine B_Joining_isOpenEnd_7 ?_
    simp only [wp_cons, wp_nil, List.getElem?_cons_zero, List.getElem?_cons_succ, List.set_cons_zero, List.set_cons_succ, s_astore_n2, pA_r, pA_n, s1_0, s1_s, kx_i, kx_r, kx_s, kx_n, kx_l, kx_0, s_aload_n2, ldA_r, ldA_n, ldA_s, s_ifnull, true_and, and_true, Nat.le_refl, true_implies, forall_const, not_false_eq_true, false_implies, not_true_eq_false, reduceCtorEq, tl_s, tl_n, rf_s, List.cons_append, List.nil_append, true_or, or_true, a2, k1.1, I_sh1 (e := e) (by omega)]
    refine B_Joining_isOpenEnd_12 ?_
    simp only [wp_cons, wp_nil, List.getElem?_cons_zero, List.getElem?_cons_succ, List.set_cons_zero, List.set_cons_succ, s_aload_n2, ldA_r, ldA_n, ldA_s, s_getfield, pR_s, ob_s, gt_s, s_ifCond_ne, p1_s, true_and, and_true, Nat.le_refl, true_implies, forall_const, not_false_eq_true, false_implies, not_true_eq_false, reduceCtorEq, tl_s, tl_n, rf_s, List.cons_append, List.nil_append, true_or, or_true, a2, k1.1, I_sh1 (e := e) (by omega)]
    refine b_ne (by omega) (by omega) (fun cc => absurd cc (by omega)) (fun cc => ?_)
    refine B_Joining_isOpenEnd_19 ?_
    simp only [wp_cons, wp_nil, List.getElem?_cons_zero, List.getElem?_cons_succ, List.set_cons_zero, List.set_cons_succ, s_iconst, s_goto, true_and, and_true, Nat.le_refl, true_implies, forall_const, not_false_eq_true, false_implies, not_true_eq_false, reduceCtorEq, tl_s, tl_n, rf_s, List.cons_append, List.nil_append, true_or, or_true, a2, k1.1, I_sh1 (e := e) (by omega)]
    refine B_Joining_isOpenEnd_24 ?_
    simp only [wp_cons, wp_nil, List.getElem?_cons_zero, List.getElem?_cons_succ, List.set_cons_zero, List.set_cons_succ, s_ireturn, p1_s, rI_i, rI_z, rI_c, z_01, z_11, rt_Joining_isOpenEnd, true_and, and_true, Nat.le_refl, true_implies, forall_const, not_false_eq_true, false_implies, not_true_eq_false, reduceCtorEq, tl_s, tl_n, rf_s, List.cons_append, List.nil_append, true_or, or_true, a2, k1.1, I_sh1 (e := e) (by omega)]
    exact hT hz
theorem Jn_end_c {d dd e : Nat} (d2 : 2 ≤ d) {σ : Nat → Nat} {Ss : List Stk} {pn : Stk} {h : g_H} {Q : g_Po} (w : wfD Ss) (ha : drw h dd σ Ss pn) (he : e < 2 * Ss.length) (hQ : Q (some (.int (I (ep Ss e)))) h) : Call Joining_endOf d 0 0 [.ref dd, .int (I (e : Int))] h Q := by
  have d1 : 1 ≤ d := by omega
  obtain ⟨a1, a2, ⟨f, a3, a4⟩, a5, a6, a7, a8, a9⟩ := id ha
  have st := a9 (e / 2) (by omega)
  obtain ⟨g, k1, k2, k3⟩ := id st
  have w1 := (w.2 (e / 2) (by omega)).1
  refine Call.intro (by rfl) (Nat.le_of_ble_eq_true rfl) ?_
  refine G.eqL (L := [some (.ref _), some (.int _), none]) rfl ?_
  refine B_Joining_endOf_0 ?_
  simp only [wp_cons, wp_nil, List.getElem?_cons_zero, List.getElem?_cons_succ, List.set_cons_zero, List.set_cons_succ, s_aload_n0, ldA_r, ldA_n, ldA_s, s_iload_n1, ldI_s, s_iconst, s_ishr, p2_s, s_invokevirtual, rc_s, ob_s, List.drop_succ_cons, List.drop_zero, List.take_succ_cons, List.take_zero, List.reverse_cons, List.reverse_nil, List.nil_append, List.cons_append, List.length_cons, List.length_nil, d1, Int.reduceToNat, Nat.reduceAdd, Nat.reduceLeDiff, true_and, and_true, Nat.le_refl, true_implies, forall_const, not_false_eq_true, false_implies, not_true_eq_false, reduceCtorEq, tl_s, tl_n, rf_s, true_or, or_true, a2, k1.1, I_sh1 (e := e) (by omega), I_an1 (e := e) (by omega)]
  refine Drawing_find_c ha (by omega) ?_
  unfold ep eI at hQ
  by_cases c : e % 2 = 0
  · rw [if_pos c] at hQ
    refine B_Joining_endOf_7 ?_
    simp only [wp_cons, wp_nil, List.getElem?_cons_zero, List.getElem?_cons_succ, List.set_cons_zero, List.set_cons_succ, s_astore_n2, pA_r, pA_n, s1_0, s1_s, kx_i, kx_r, kx_s, kx_n, kx_l, kx_0, s_aload_n2, ldA_r, ldA_n, ldA_s, s_ifnonnull, true_and, and_true, Nat.le_refl, true_implies, forall_const, not_false_eq_true, false_implies, not_true_eq_false, reduceCtorEq, tl_s, tl_n, rf_s, List.cons_append, List.nil_append, true_or, or_true, a2, k1.1, I_sh1 (e := e) (by omega), I_an1 (e := e) (by omega)]
    refine B_Joining_endOf_14 ?_
    simp only [wp_cons, wp_nil, List.getElem?_cons_zero, List.getElem?_cons_succ, List.set_cons_zero, List.set_cons_succ, s_iload_n1, ldI_s, s_iconst, s_iand, p2_s, s_ifCond_ne, p1_s, true_and, and_true, Nat.le_refl, true_implies, forall_const, not_false_eq_true, false_implies, not_true_eq_false, reduceCtorEq, tl_s, tl_n, rf_s, List.cons_append, List.nil_append, true_or, or_true, a2, k1.1, I_sh1 (e := e) (by omega), I_an1 (e := e) (by omega)]
    refine b_ne (by omega) (by omega) (fun cc => absurd cc (by omega)) (fun cc => ?_)
    refine B_Joining_endOf_20 ?_
    simp only [wp_cons, wp_nil, List.getElem?_cons_zero, List.getElem?_cons_succ, List.set_cons_zero, List.set_cons_succ, s_aload_n2, ldA_r, ldA_n, ldA_s, s_invokevirtual, rc_s, ob_s, List.drop_succ_cons, List.drop_zero, List.take_succ_cons, List.take_zero, List.reverse_cons, List.reverse_nil, List.nil_append, List.cons_append, List.length_cons, List.length_nil, d1, Int.reduceToNat, Nat.reduceAdd, Nat.reduceLeDiff, true_and, and_true, Nat.le_refl, true_implies, forall_const, not_false_eq_true, false_implies, not_true_eq_false, reduceCtorEq, tl_s, tl_n, rf_s, true_or, or_true, a2, k1.1, I_sh1 (e := e) (by omega), I_an1 (e := e) (by omega)]
    refine Stroke_first_c (by omega) st (by omega) ?_
    refine B_Joining_endOf_24 ?_
    simp only [wp_cons, wp_nil, List.getElem?_cons_zero, List.getElem?_cons_succ, List.set_cons_zero, List.set_cons_succ, s_goto, true_and, and_true, Nat.le_refl, true_implies, forall_const, not_false_eq_true, false_implies, not_true_eq_false, reduceCtorEq, tl_s, tl_n, rf_s, List.cons_append, List.nil_append, true_or, or_true, a2, k1.1, I_sh1 (e := e) (by omega), I_an1 (e := e) (by omega)]
    refine B_Joining_endOf_31 ?_
    simp only [wp_cons, wp_nil, List.getElem?_cons_zero, List.getElem?_cons_succ, List.set_cons_zero, List.set_cons_succ, s_ireturn, p1_s, rI_i, rI_z, rI_c, z_01, z_11, rt_Joining_endOf, true_and, and_true, Nat.le_refl, true_implies, forall_const, not_false_eq_true, false_implies, not_true_eq_false, reduceCtorEq, tl_s, tl_n, rf_s, List.cons_append, List.nil_append, true_or, or_true, a2, k1.1, I_sh1 (e := e) (by omega), I_an1 (e := e) (by omega)]
    exact hQ
  · rw [if_neg c] at hQ
    refine B_Joining_endOf_7 ?_
    simp only [wp_cons, wp_nil, List.getElem?_cons_zero, List.getElem?_cons_succ, List.set_cons_zero, List.set_cons_succ, s_astore_n2, pA_r, pA_n, s1_0, s1_s, kx_i, kx_r, kx_s, kx_n, kx_l, kx_0, s_aload_n2, ldA_r, ldA_n, ldA_s, s_ifnonnull, true_and, and_true, Nat.le_refl, true_implies, forall_const, not_false_eq_true, false_implies, not_true_eq_false, reduceCtorEq, tl_s, tl_n, rf_s, List.cons_append, List.nil_append, true_or, or_true, a2, k1.1, I_sh1 (e := e) (by omega), I_an1 (e := e) (by omega)]
    refine B_Joining_endOf_14 ?_
    simp only [wp_cons, wp_nil, List.getElem?_cons_zero, List.getElem?_cons_succ, List.set_cons_zero, List.set_cons_succ, s_iload_n1, ldI_s, s_iconst, s_iand, p2_s, s_ifCond_ne, p1_s, true_and, and_true, Nat.le_refl, true_implies, forall_const, not_false_eq_true, false_implies, not_true_eq_false, reduceCtorEq, tl_s, tl_n, rf_s, List.cons_append, List.nil_append, true_or, or_true, a2, k1.1, I_sh1 (e := e) (by omega), I_an1 (e := e) (by omega)]
    refine b_ne (by omega) (by omega) (fun cc => ?_) (fun cc => absurd cc (by omega))
    refine B_Joining_endOf_27 ?_
    simp only [wp_cons, wp_nil, List.getElem?_cons_zero, List.getElem?_cons_succ, List.set_cons_zero, List.set_cons_succ, s_aload_n2, ldA_r, ldA_n, ldA_s, s_invokevirtual, rc_s, ob_s, List.drop_succ_cons, List.drop_zero, List.take_succ_cons, List.take_zero, List.reverse_cons, List.reverse_nil, List.nil_append, List.cons_append, List.length_cons, List.length_nil, d1, Int.reduceToNat, Nat.reduceAdd, Nat.reduceLeDiff, true_and, and_true, Nat.le_refl, true_implies, forall_const, not_false_eq_true, false_implies, not_true_eq_false, reduceCtorEq, tl_s, tl_n, rf_s, true_or, or_true, a2, k1.1, I_sh1 (e := e) (by omega), I_an1 (e := e) (by omega)]
    refine Stroke_last_c (by omega) st (by omega) ?_
    refine B_Joining_endOf_31 ?_
    simp only [wp_cons, wp_nil, List.getElem?_cons_zero, List.getElem?_cons_succ, List.set_cons_zero, List.set_cons_succ, s_ireturn, p1_s, rI_i, rI_z, rI_c, z_01, z_11, rt_Joining_endOf, true_and, and_true, Nat.le_refl, true_implies, forall_const, not_false_eq_true, false_implies, not_true_eq_false, reduceCtorEq, tl_s, tl_n, rf_s, List.cons_append, List.nil_append, true_or, or_true, a2, k1.1, I_sh1 (e := e) (by omega), I_an1 (e := e) (by omega)]
    exact hQ
theorem Jn_close_c {d dd i : Nat} (d2 : 2 ≤ d) {σ : Nat → Nat} {Ss : List Stk} {pn : Stk} {h : g_H} {Q : g_Po} (w : wfD Ss) (ha : drw h dd σ Ss pn) (hi : i < Ss.length) (hT : 4 ≤ (sg Ss i).1.length → ∀ h', chg dd (dd + 24) h h' → drL h' dd (Ss.set i ((sg Ss i).1.take ((sg Ss i).1.length - 1), true)) pn → Q (some (.int (I 1))) h') (hF : ¬ 4 ≤ (sg Ss i).1.length → Q (some (.int (I 0))) h) : Call Joining_closeUp d 0 0 [.ref dd, .int (I (i : Int))] h Q := by
  have d1 : 1 ≤ d := by omega
  obtain ⟨a1, a2, ⟨f, a3, a4⟩, a5, a6, a7, a8, a9⟩ := id ha
  have st := a9 i (by omega)
  have sl := a6 i (by omega)
  obtain ⟨g, k1, k2, k3⟩ := id st
  refine Call.intro (by rfl) (Nat.le_of_ble_eq_true rfl) ?_
  refine G.eqL (L := [some (.ref _), some (.int _), none]) rfl ?_
  refine B_Joining_closeUp_0 ?_
  simp only [wp_cons, wp_nil, List.getElem?_cons_zero, List.getElem?_cons_succ, List.set_cons_zero, List.set_cons_succ, s_aload_n0, ldA_r, ldA_n, ldA_s, s_iload_n1, ldI_s, s_invokevirtual, rc_s, ob_s, List.drop_succ_cons, List.drop_zero, List.take_succ_cons, List.take_zero, List.reverse_cons, List.reverse_nil, List.nil_append, List.cons_append, List.length_cons, List.length_nil, d1, Int.reduceToNat, Nat.reduceAdd, Nat.reduceLeDiff, true_and, and_true, Nat.le_refl, true_implies, forall_const, not_false_eq_true, false_implies, not_true_eq_false, reduceCtorEq, tl_s, tl_n, rf_s, true_or, or_true, a2, k1.1]
  refine Drawing_find_c ha (by omega) ?_
  by_cases c : 4 ≤ (sg Ss i).1.length
  · refine B_Joining_closeUp_5 ?_
    simp only [wp_cons, wp_nil, List.getElem?_cons_zero, List.getElem?_cons_succ, List.set_cons_zero, List.set_cons_succ, s_astore_n2, pA_r, pA_n, s1_0, s1_s, kx_i, kx_r, kx_s, kx_n, kx_l, kx_0, s_aload_n2, ldA_r, ldA_n, ldA_s, s_ifnull, true_and, and_true, Nat.le_refl, true_implies, forall_const, not_false_eq_true, false_implies, not_true_eq_false, reduceCtorEq, tl_s, tl_n, rf_s, List.cons_append, List.nil_append, true_or, or_true, a2, k1.1]
    refine B_Joining_closeUp_10 ?_
    simp only [wp_cons, wp_nil, List.getElem?_cons_zero, List.getElem?_cons_succ, List.set_cons_zero, List.set_cons_succ, s_aload_n2, ldA_r, ldA_n, ldA_s, s_getfield, pR_s, ob_s, gt_s, s_iconst, s_if_icmp_ge, p2_s, true_and, and_true, Nat.le_refl, true_implies, forall_const, not_false_eq_true, false_implies, not_true_eq_false, reduceCtorEq, tl_s, tl_n, rf_s, List.cons_append, List.nil_append, true_or, or_true, a2, k1.1]
    refine b_le (by omega) (by omega) (fun cc => ?_) (fun cc => absurd cc (by omega))
    refine B_Joining_closeUp_20 ?_
    simp only [wp_cons, wp_nil, List.getElem?_cons_zero, List.getElem?_cons_succ, List.set_cons_zero, List.set_cons_succ, s_aload_n2, ldA_r, ldA_n, ldA_s, s_getfield, pR_s, ob_s, gt_s, s_iconst, s_isub, p2_s, I_sub, s_invokevirtual, rc_s, List.drop_succ_cons, List.drop_zero, List.take_succ_cons, List.take_zero, List.reverse_cons, List.reverse_nil, List.nil_append, List.cons_append, List.length_cons, List.length_nil, d1, Int.reduceToNat, Nat.reduceAdd, Nat.reduceLeDiff, true_and, and_true, Nat.le_refl, true_implies, forall_const, not_false_eq_true, false_implies, not_true_eq_false, reduceCtorEq, tl_s, tl_n, rf_s, true_or, or_true, a2, k1.1]
    rw [show ((sg Ss i).1.length : Int) - 1 = (((sg Ss i).1.length - 1 : Nat) : Int) by omega]
    refine Stroke_shorten_c (by omega) st (by omega) (fun h1 c1 s1 => ?_)
    obtain ⟨g1, l1, l2, l3⟩ := id s1
    refine B_Joining_closeUp_30 ?_
    simp only [wp_cons, wp_nil, List.getElem?_cons_zero, List.getElem?_cons_succ, List.set_cons_zero, List.set_cons_succ, s_aload_n2, ldA_r, ldA_n, ldA_s, s_iconst, s_putfield, pv_i, pv_z, pv_r, pv_f, ob_s, z_01, z_11, List.length_cons, List.length_nil, s_ireturn, p1_s, rI_i, rI_z, rI_c, rt_Joining_closeUp, true_and, and_true, Nat.le_refl, true_implies, forall_const, not_false_eq_true, false_implies, not_true_eq_false, reduceCtorEq, tl_s, tl_n, rf_s, List.cons_append, List.nil_append, true_or, or_true, l1.1, Nat.reduceLT, Nat.reduceAdd]
    have c2 : chg (σ i) (σ i + 2) h1 (h1.set (σ i) (.inr (.inr (2, [.ref (σ i + 1), .int (I (((sg Ss i).1.take ((sg Ss i).1.length - 1)).length : Int)), .int (I 1)])))) := chg.set _ (by omega)
    have c12 := c1.tr c2
    refine hT c _ (c12.wd (by omega) (by omega)) ⟨σ, ha.up hi c12 ⟨g1, ⟨?_, ?_⟩, l2, l3⟩⟩
    · rw [h_at _ l1.1]; rfl
    · rw [h_ne _ (by omega)]; exact l1.2
  · refine B_Joining_closeUp_5 ?_
    simp only [wp_cons, wp_nil, List.getElem?_cons_zero, List.getElem?_cons_succ, List.set_cons_zero, List.set_cons_succ, s_astore_n2, pA_r, pA_n, s1_0, s1_s, kx_i, kx_r, kx_s, kx_n, kx_l, kx_0, s_aload_n2, ldA_r, ldA_n, ldA_s, s_ifnull, true_and, and_true, Nat.le_refl, true_implies, forall_const, not_false_eq_true, false_implies, not_true_eq_false, reduceCtorEq, tl_s, tl_n, rf_s, List.cons_append, List.nil_append, true_or, or_true, a2, k1.1]
    refine B_Joining_closeUp_10 ?_
    simp only [wp_cons, wp_nil, List.getElem?_cons_zero, List.getElem?_cons_succ, List.set_cons_zero, List.set_cons_succ, s_aload_n2, ldA_r, ldA_n, ldA_s, s_getfield, pR_s, ob_s, gt_s, s_iconst, s_if_icmp_ge, p2_s, true_and, and_true, Nat.le_refl, true_implies, forall_const, not_false_eq_true, false_implies, not_true_eq_false, reduceCtorEq, tl_s, tl_n, rf_s, List.cons_append, List.nil_append, true_or, or_true, a2, k1.1]
    refine b_le (by omega) (by omega) (fun cc => absurd cc (by omega)) (fun cc => ?_)
    refine B_Joining_closeUp_18 ?_
    simp only [wp_cons, wp_nil, List.getElem?_cons_zero, List.getElem?_cons_succ, List.set_cons_zero, List.set_cons_succ, s_iconst, s_ireturn, p1_s, rI_i, rI_z, rI_c, z_01, z_11, rt_Joining_closeUp, true_and, and_true, Nat.le_refl, true_implies, forall_const, not_false_eq_true, false_implies, not_true_eq_false, reduceCtorEq, tl_s, tl_n, rf_s, List.cons_append, List.nil_append, true_or, or_true, a2, k1.1]
    exact hF c
theorem eraseIdx_set_s {l : List Stk} {i : Nat} (x : Stk) (hi : i < l.length) : (l.set i x).eraseIdx i = l.eraseIdx i := by
  apply sg_ext
  · rw [List.length_eraseIdx, List.length_eraseIdx, List.length_set]
  · intro k hk
    rw [sg_erase, sg_erase, sg_set _ _ _ hi, sg_set _ _ _ hi]
    split
    · rw [if_neg (by omega)]
    · rw [if_neg (by omega)]
theorem take_tail_succ {l : List Int} {i : Nat} (h : i + 1 < l.length) : l.tail.take i ++ [pg l (i + 1)] = l.tail.take (i + 1) := by
  rw [List.take_succ_eq_append_getElem (by rw [List.length_tail]; omega)]
  congr 1
  unfold pg
  rw [List.getD_eq_getElem?_getD, List.getElem?_eq_getElem h, List.getElem_tail]
  rfl
theorem Jn_two_l {d dd e f a b : Nat} (d3 : 3 ≤ d) {σ : Nat → Nat} {Ss : List Stk} {pn A B : Stk} {h0 : g_H} {Q : g_Po} (he : e < 1000) (hf : f < 1000) (ea : a = e / 2) (eb9 : b = f / 2) (hab : a ≠ b) (hal : a < Ss.length) (hbl : b < Ss.length) (hB : 1 ≤ B.1.length) (hlen : A.1.length + B.1.length ≤ 31) (hs0 : drw h0 dd σ Ss pn) (sb : stL h0 (σ b) B)
    (hQ : ∀ h', chg dd (dd + 24) h0 h' → drL h' dd ((Ss.set a (A.1 ++ B.1.tail, A.2)).eraseIdx b) pn → Q (some (.int (I 1))) h') :
    ∀ (m i : Nat) (h : g_H), i + m = B.1.length → 1 ≤ i → chg (σ a) (σ a + 2) h0 h → stL h (σ a) (A.1 ++ B.1.tail.take (i - 1), A.2) →
    G Joining_joinTwo d 0 0 0 0 68 [some (.ref dd), some (.int (I (e : Int))), some (.int (I (f : Int))), some (.ref (σ a)), some (.ref (σ b)), some (.int (I (i : Int)))] [] h Q := by
  have d1 : 1 ≤ d := by omega
  obtain ⟨a1, a2, -, a5, a6, a7, a8, a9⟩ := id hs0
  have sla := a6 a (by omega)
  have slb := a6 b (by omega)
  have sab := a7 a b (by omega) (by omega) hab
  intro m
  induction m with
  | zero =>
    intro i h hi h1 hc sa
    obtain rfl : i = B.1.length := by omega
    have hs1 := hs0.up hal hc sa
    obtain ⟨p1, p2, -⟩ := id hs1
    obtain ⟨g, k1, k2, k3⟩ := id (sb.kp hc (by omega))
    refine B_Joining_joinTwo_68 ?_
    simp only [wp_cons, wp_nil, List.getElem?_cons_zero, List.getElem?_cons_succ, List.set_cons_zero, List.set_cons_succ, s_iload, ldI_s, s_aload, ldA_r, ldA_n, ldA_s, s_getfield, pR_s, ob_s, gt_s, s_if_icmp_ge, p2_s, true_and, and_true, Nat.le_refl, true_implies, forall_const, not_false_eq_true, false_implies, not_true_eq_false, reduceCtorEq, tl_s, tl_n, rf_s, List.cons_append, List.nil_append, true_or, or_true, k1.1, p2, I_sh1 (e := f) (by omega)]
    refine b_le (by omega) (by omega) (fun cc => ?_) (fun cc => absurd cc (by omega))
    refine B_Joining_joinTwo_95 ?_
    simp only [wp_cons, wp_nil, List.getElem?_cons_zero, List.getElem?_cons_succ, List.set_cons_zero, List.set_cons_succ, s_aload_n0, ldA_r, ldA_n, ldA_s, s_iload_n2, ldI_s, s_iconst, s_ishr, p2_s, s_invokevirtual, rc_s, ob_s, List.drop_succ_cons, List.drop_zero, List.take_succ_cons, List.take_zero, List.reverse_cons, List.reverse_nil, List.nil_append, List.cons_append, List.length_cons, List.length_nil, d1, Int.reduceToNat, Nat.reduceAdd, Nat.reduceLeDiff, true_and, and_true, Nat.le_refl, true_implies, forall_const, not_false_eq_true, false_implies, not_true_eq_false, reduceCtorEq, tl_s, tl_n, rf_s, true_or, or_true, k1.1, p2, I_sh1 (e := f) (by omega)]
    rw [← eb9]
    refine Drawing_drop_c (by omega) hs1 (by rw [List.length_set]; exact hbl) (fun h2 c2 s2 => ?_)
    refine B_Joining_joinTwo_102 ?_
    simp only [wp_cons, wp_nil, List.getElem?_cons_zero, List.getElem?_cons_succ, List.set_cons_zero, List.set_cons_succ, s_iconst, s_ireturn, p1_s, rI_i, rI_z, rI_c, z_01, z_11, rt_Joining_joinTwo, true_and, and_true, Nat.le_refl, true_implies, forall_const, not_false_eq_true, false_implies, not_true_eq_false, reduceCtorEq, tl_s, tl_n, rf_s, List.cons_append, List.nil_append, true_or, or_true, k1.1, p2, I_sh1 (e := f) (by omega)]
    rw [List.take_of_length_le (by rw [List.length_tail]; omega)] at s2
    exact hQ h2 ((hc.wd (by omega) (by omega)).tr c2) ⟨_, s2⟩
  | succ m ih =>
    intro i h hi h1 hc sa
    have sb1 := sb.kp hc (by omega)
    obtain ⟨g, k1, k2, k3⟩ := id sb1
    obtain ⟨g2, l1, l2, l3⟩ := id sa
    refine B_Joining_joinTwo_68 ?_
    simp only [wp_cons, wp_nil, List.getElem?_cons_zero, List.getElem?_cons_succ, List.set_cons_zero, List.set_cons_succ, s_iload, ldI_s, s_aload, ldA_r, ldA_n, ldA_s, s_getfield, pR_s, ob_s, gt_s, s_if_icmp_ge, p2_s, true_and, and_true, Nat.le_refl, true_implies, forall_const, not_false_eq_true, false_implies, not_true_eq_false, reduceCtorEq, tl_s, tl_n, rf_s, List.cons_append, List.nil_append, true_or, or_true, k1.1, l1.1]
    refine b_le (by omega) (by omega) (fun cc => absurd cc (by omega)) (fun cc => ?_)
    refine B_Joining_joinTwo_78 ?_
    simp only [wp_cons, wp_nil, List.getElem?_cons_zero, List.getElem?_cons_succ, List.set_cons_zero, List.set_cons_succ, s_aload_n3, ldA_r, ldA_n, ldA_s, s_aload, s_iload, ldI_s, s_invokevirtual, rc_s, ob_s, List.drop_succ_cons, List.drop_zero, List.take_succ_cons, List.take_zero, List.reverse_cons, List.reverse_nil, List.nil_append, List.cons_append, List.length_cons, List.length_nil, d1, Int.reduceToNat, Nat.reduceAdd, Nat.reduceLeDiff, true_and, and_true, Nat.le_refl, true_implies, forall_const, not_false_eq_true, false_implies, not_true_eq_false, reduceCtorEq, tl_s, tl_n, rf_s, true_or, or_true, k1.1, l1.1]
    refine Stroke_at_c sb1 (by omega) ?_
    refine B_Joining_joinTwo_86 ?_
    simp only [wp_cons, wp_nil, List.getElem?_cons_zero, List.getElem?_cons_succ, List.set_cons_zero, List.set_cons_succ, s_invokevirtual, rc_s, ob_s, List.drop_succ_cons, List.drop_zero, List.take_succ_cons, List.take_zero, List.reverse_cons, List.reverse_nil, List.nil_append, List.cons_append, List.length_cons, List.length_nil, d1, Int.reduceToNat, Nat.reduceAdd, Nat.reduceLeDiff, true_and, and_true, Nat.le_refl, true_implies, forall_const, not_false_eq_true, false_implies, not_true_eq_false, reduceCtorEq, tl_s, tl_n, rf_s, true_or, or_true, k1.1, l1.1]
    refine Stroke_add_c sa (show (A.1 ++ B.1.tail.take (i - 1)).length < 30 by rw [List.length_append, List.length_take, List.length_tail]; omega) (fun h2 c2 s2 => ?_)
    refine B_Joining_joinTwo_89 ?_
    simp only [wp_cons, wp_nil, List.getElem?_cons_zero, List.getElem?_cons_succ, List.set_cons_zero, List.set_cons_succ, s_iinc, ldI_s, s1_0, s1_s, kx_i, kx_r, kx_s, kx_n, kx_l, kx_0, I_add, s_goto, true_and, and_true, Nat.le_refl, true_implies, forall_const, not_false_eq_true, false_implies, not_true_eq_false, reduceCtorEq, tl_s, tl_n, rf_s, List.cons_append, List.nil_append, true_or, or_true, k1.1, l1.1]
    refine ih (i + 1) h2 (by omega) (by omega) (hc.tr c2) ?_
    have e1 := take_tail_succ (l := B.1) (i := i - 1) (by omega)
    rw [show i - 1 + 1 = i by omega] at e1
    rw [show i + 1 - 1 = i by omega, ← e1, ← List.append_assoc]
    exact s2
theorem Jn_two_c {d dd e f : Nat} (d3 : 3 ≤ d) {σ : Nat → Nat} {Ss : List Stk} {pn : Stk} {h : g_H} {Q : g_Po} (w : wfD Ss) (ha : drw h dd σ Ss pn) (he : eo Ss e) (hf : eo Ss f) (hef : e / 2 ≠ f / 2) (hT : ez Ss e + ez Ss f ≤ 31 → ∀ h', chg dd (dd + 24) h h' → drL h' dd ((Ss.set (e / 2) (jnl Ss e f, false)).eraseIdx (f / 2)) pn → Q (some (.int (I 1))) h') (hF : ¬ ez Ss e + ez Ss f ≤ 31 → Q (some (.int (I 0))) h) : Call Joining_joinTwo d 0 0 [.ref dd, .int (I (e : Int)), .int (I (f : Int))] h Q := by
  have d1 : 1 ≤ d := by omega
  obtain ⟨a1, a2, -, a5, a6, a7, a8, a9⟩ := id ha
  have b1 := wfD_e w he
  have b2 := wfD_e w hf
  have hel := he.1
  have hfl := hf.1
  have st := a9 (e / 2) (by omega)
  have su := a9 (f / 2) (by omega)
  have sla := a6 (e / 2) (by omega)
  have slb := a6 (f / 2) (by omega)
  have sab := a7 (e / 2) (f / 2) (by omega) (by omega) hef
  obtain ⟨g, k1, k2, k3⟩ := id st
  obtain ⟨g2, l1, l2, l3⟩ := id su
  have z1 : ez Ss e = (sg Ss (e / 2)).1.length := rfl
  have z2 : ez Ss f = (sg Ss (f / 2)).1.length := rfl
  refine Call.intro (by rfl) (Nat.le_of_ble_eq_true rfl) ?_
  refine G.eqL (L := [some (.ref _), some (.int _), some (.int _), none, none, none]) rfl ?_
  refine B_Joining_joinTwo_0 ?_
  simp only [wp_cons, wp_nil, List.getElem?_cons_zero, List.getElem?_cons_succ, List.set_cons_zero, List.set_cons_succ, s_aload_n0, ldA_r, ldA_n, ldA_s, s_iload_n1, ldI_s, s_iconst, s_ishr, p2_s, s_invokevirtual, rc_s, ob_s, List.drop_succ_cons, List.drop_zero, List.take_succ_cons, List.take_zero, List.reverse_cons, List.reverse_nil, List.nil_append, List.cons_append, List.length_cons, List.length_nil, d1, Int.reduceToNat, Nat.reduceAdd, Nat.reduceLeDiff, true_and, and_true, Nat.le_refl, true_implies, forall_const, not_false_eq_true, false_implies, not_true_eq_false, reduceCtorEq, tl_s, tl_n, rf_s, true_or, or_true, a2, k1.1, l1.1, I_sh1 (e := e) (by omega), I_sh1 (e := f) (by omega)]
  refine Drawing_find_c ha (by omega) ?_
  refine B_Joining_joinTwo_7 ?_
  simp only [wp_cons, wp_nil, List.getElem?_cons_zero, List.getElem?_cons_succ, List.set_cons_zero, List.set_cons_succ, s_astore_n3, pA_r, pA_n, s1_0, s1_s, kx_i, kx_r, kx_s, kx_n, kx_l, kx_0, s_aload_n0, ldA_r, ldA_n, ldA_s, s_iload_n2, ldI_s, s_iconst, s_ishr, p2_s, s_invokevirtual, rc_s, ob_s, List.drop_succ_cons, List.drop_zero, List.take_succ_cons, List.take_zero, List.reverse_cons, List.reverse_nil, List.nil_append, List.cons_append, List.length_cons, List.length_nil, d1, Int.reduceToNat, Nat.reduceAdd, Nat.reduceLeDiff, true_and, and_true, Nat.le_refl, true_implies, forall_const, not_false_eq_true, false_implies, not_true_eq_false, reduceCtorEq, tl_s, tl_n, rf_s, true_or, or_true, a2, k1.1, l1.1, I_sh1 (e := e) (by omega), I_sh1 (e := f) (by omega)]
  refine Drawing_find_c ha (by omega) ?_
  by_cases c : ez Ss e + ez Ss f ≤ 31
  · have key : ∀ h1, chg (σ (e / 2)) (σ (e / 2) + 2) h h1 → stL h1 (σ (e / 2)) (rvi (decide (e % 2 = 0)) (sg Ss (e / 2)).1, false) → G Joining_joinTwo d 0 0 0 0 53 [some (.ref dd), some (.int (I (e : Int))), some (.int (I (f : Int))), some (.ref (σ (e / 2))), some (.ref (σ (f / 2))), none] [] h1 Q := by
      intro h1 c1 s1
      have hs1 := ha.up (by omega) c1 s1
      have su1 := su.kp c1 (by omega)
      obtain ⟨g3, m1, m2, m3⟩ := id su1
      have fin : ∀ h2, chg (σ (f / 2)) (σ (f / 2) + 2) h1 h2 → stL h2 (σ (f / 2)) (rvi (decide (f % 2 = 1)) (sg Ss (f / 2)).1, (sg Ss (f / 2)).2) → G Joining_joinTwo d 0 0 0 0 65 [some (.ref dd), some (.int (I (e : Int))), some (.int (I (f : Int))), some (.ref (σ (e / 2))), some (.ref (σ (f / 2))), none] [] h2 Q := by
        intro h2 c2 s2
        have hs2 := hs1.up (i := f / 2) (by rw [List.length_set]; omega) c2 s2
        have sa2 := s1.kp c2 (by omega)
        refine B_Joining_joinTwo_65 ?_
        simp only [wp_cons, wp_nil, List.getElem?_cons_zero, List.getElem?_cons_succ, List.set_cons_zero, List.set_cons_succ, s_iconst, s_istore, p1_s, s1_0, s1_s, kx_i, kx_r, kx_s, kx_n, kx_l, kx_0, true_and, and_true, Nat.le_refl, true_implies, forall_const, not_false_eq_true, false_implies, not_true_eq_false, reduceCtorEq, tl_s, tl_n, rf_s, List.cons_append, List.nil_append, true_or, or_true, a2, k1.1, l1.1, I_sh1 (e := e) (by omega), I_sh1 (e := f) (by omega)]
        refine Jn_two_l d3 (a := e / 2) (b := f / 2) (A := (rvi (decide (e % 2 = 0)) (sg Ss (e / 2)).1, false)) (B := (rvi (decide (f % 2 = 1)) (sg Ss (f / 2)).1, (sg Ss (f / 2)).2)) (by omega) (by omega) rfl rfl hef (by rw [List.length_set, List.length_set]; omega) (by rw [List.length_set, List.length_set]; omega) (by rw [rvi_len]; omega) (by rw [rvi_len, rvi_len]; omega) hs2 s2 (fun h' c' s' => ?_) ((sg Ss (f / 2)).1.length - 1) 1 h2 (by rw [rvi_len]; omega) (by omega) chg.rf ?_
        · refine hT c h' (((c1.wd (by omega) (by omega)).tr (c2.wd (by omega) (by omega))).tr c') ?_
          have e1 : (((Ss.set (e / 2) (rvi (decide (e % 2 = 0)) (sg Ss (e / 2)).1, false)).set (f / 2) (rvi (decide (f % 2 = 1)) (sg Ss (f / 2)).1, (sg Ss (f / 2)).2)).set (e / 2) (jnl Ss e f, false)).eraseIdx (f / 2) = (Ss.set (e / 2) (jnl Ss e f, false)).eraseIdx (f / 2) := by
            rw [List.set_comm _ _ (fun q => hef q.symm), List.set_set, eraseIdx_set_s _ (by rw [List.length_set]; omega)]
          rw [← e1]
          exact s'
        · rw [show 1 - 1 = 0 from rfl, List.take_zero, List.append_nil]
          exact sa2
      by_cases p : f % 2 = 1
      · refine B_Joining_joinTwo_53 ?_
        simp only [wp_cons, wp_nil, List.getElem?_cons_zero, List.getElem?_cons_succ, List.set_cons_zero, List.set_cons_succ, s_iload_n2, ldI_s, s_iconst, s_iand, p2_s, s_if_icmp_ne, true_and, and_true, Nat.le_refl, true_implies, forall_const, not_false_eq_true, false_implies, not_true_eq_false, reduceCtorEq, tl_s, tl_n, rf_s, List.cons_append, List.nil_append, true_or, or_true, m1.1, I_an1 (e := f) (by omega)]
        refine b_ne (by omega) (by omega) (fun cc => absurd cc (by omega)) (fun cc => ?_)
        refine B_Joining_joinTwo_60 ?_
        simp only [wp_cons, wp_nil, List.getElem?_cons_zero, List.getElem?_cons_succ, List.set_cons_zero, List.set_cons_succ, s_aload, ldA_r, ldA_n, ldA_s, s_invokevirtual, rc_s, ob_s, List.drop_succ_cons, List.drop_zero, List.take_succ_cons, List.take_zero, List.reverse_cons, List.reverse_nil, List.nil_append, List.cons_append, List.length_cons, List.length_nil, d1, Int.reduceToNat, Nat.reduceAdd, Nat.reduceLeDiff, true_and, and_true, Nat.le_refl, true_implies, forall_const, not_false_eq_true, false_implies, not_true_eq_false, reduceCtorEq, tl_s, tl_n, rf_s, true_or, or_true, m1.1, I_an1 (e := f) (by omega)]
        refine Stroke_turnRound_c (by omega) su1 (by omega) (fun h2 c2 s2 => ?_)
        refine fin h2 c2 ?_
        unfold rvi
        rw [if_pos (by simpa using p)]
        exact s2
      · refine B_Joining_joinTwo_53 ?_
        simp only [wp_cons, wp_nil, List.getElem?_cons_zero, List.getElem?_cons_succ, List.set_cons_zero, List.set_cons_succ, s_iload_n2, ldI_s, s_iconst, s_iand, p2_s, s_if_icmp_ne, true_and, and_true, Nat.le_refl, true_implies, forall_const, not_false_eq_true, false_implies, not_true_eq_false, reduceCtorEq, tl_s, tl_n, rf_s, List.cons_append, List.nil_append, true_or, or_true, m1.1, I_an1 (e := f) (by omega)]
        refine b_ne (by omega) (by omega) (fun cc => ?_) (fun cc => absurd cc (by omega))
        refine fin h1 chg.rf ?_
        unfold rvi
        rw [if_neg (by simpa using p)]
        exact su1
    have hst : (sg Ss (e / 2)).2 = false := he.2
    by_cases p : e % 2 = 0
    · refine B_Joining_joinTwo_15 ?_
      simp only [wp_cons, wp_nil, List.getElem?_cons_zero, List.getElem?_cons_succ, List.set_cons_zero, List.set_cons_succ, s_astore, pA_r, pA_n, s1_0, s1_s, kx_i, kx_r, kx_s, kx_n, kx_l, kx_0, s_aload_n3, ldA_r, ldA_n, ldA_s, s_ifnull, true_and, and_true, Nat.le_refl, true_implies, forall_const, not_false_eq_true, false_implies, not_true_eq_false, reduceCtorEq, tl_s, tl_n, rf_s, List.cons_append, List.nil_append, true_or, or_true, a2, k1.1, l1.1, I_an1 (e := e) (by omega)]
      refine B_Joining_joinTwo_21 ?_
      simp only [wp_cons, wp_nil, List.getElem?_cons_zero, List.getElem?_cons_succ, List.set_cons_zero, List.set_cons_succ, s_aload, ldA_r, ldA_n, ldA_s, s_ifnull, pA_r, pA_n, true_and, and_true, Nat.le_refl, true_implies, forall_const, not_false_eq_true, false_implies, not_true_eq_false, reduceCtorEq, tl_s, tl_n, rf_s, List.cons_append, List.nil_append, true_or, or_true, a2, k1.1, l1.1, I_an1 (e := e) (by omega)]
      refine B_Joining_joinTwo_26 ?_
      simp only [wp_cons, wp_nil, List.getElem?_cons_zero, List.getElem?_cons_succ, List.set_cons_zero, List.set_cons_succ, s_aload_n3, ldA_r, ldA_n, ldA_s, s_getfield, pR_s, ob_s, gt_s, s_aload, s_iadd, p2_s, I_add, s_bipush, s_if_icmp_le, true_and, and_true, Nat.le_refl, true_implies, forall_const, not_false_eq_true, false_implies, not_true_eq_false, reduceCtorEq, tl_s, tl_n, rf_s, List.cons_append, List.nil_append, true_or, or_true, a2, k1.1, l1.1, I_an1 (e := e) (by omega)]
      refine b_le (by omega) (by omega) (fun cc => ?_) (fun cc => absurd cc (by omega))
      refine B_Joining_joinTwo_43 ?_
      simp only [wp_cons, wp_nil, List.getElem?_cons_zero, List.getElem?_cons_succ, List.set_cons_zero, List.set_cons_succ, s_iload_n1, ldI_s, s_iconst, s_iand, p2_s, s_ifCond_ne, p1_s, true_and, and_true, Nat.le_refl, true_implies, forall_const, not_false_eq_true, false_implies, not_true_eq_false, reduceCtorEq, tl_s, tl_n, rf_s, List.cons_append, List.nil_append, true_or, or_true, a2, k1.1, l1.1, I_an1 (e := e) (by omega)]
      refine b_ne (by omega) (by omega) (fun cc => absurd cc (by omega)) (fun cc => ?_)
      refine B_Joining_joinTwo_49 ?_
      simp only [wp_cons, wp_nil, List.getElem?_cons_zero, List.getElem?_cons_succ, List.set_cons_zero, List.set_cons_succ, s_aload_n3, ldA_r, ldA_n, ldA_s, s_invokevirtual, rc_s, ob_s, List.drop_succ_cons, List.drop_zero, List.take_succ_cons, List.take_zero, List.reverse_cons, List.reverse_nil, List.nil_append, List.cons_append, List.length_cons, List.length_nil, d1, Int.reduceToNat, Nat.reduceAdd, Nat.reduceLeDiff, true_and, and_true, Nat.le_refl, true_implies, forall_const, not_false_eq_true, false_implies, not_true_eq_false, reduceCtorEq, tl_s, tl_n, rf_s, true_or, or_true, a2, k1.1, l1.1, I_an1 (e := e) (by omega)]
      refine Stroke_turnRound_c (by omega) st (by omega) (fun h2 c2 s2 => ?_)
      refine key h2 c2 ?_
      unfold rvi
      rw [if_pos (by simpa using p), ← hst]
      exact s2
    · refine B_Joining_joinTwo_15 ?_
      simp only [wp_cons, wp_nil, List.getElem?_cons_zero, List.getElem?_cons_succ, List.set_cons_zero, List.set_cons_succ, s_astore, pA_r, pA_n, s1_0, s1_s, kx_i, kx_r, kx_s, kx_n, kx_l, kx_0, s_aload_n3, ldA_r, ldA_n, ldA_s, s_ifnull, true_and, and_true, Nat.le_refl, true_implies, forall_const, not_false_eq_true, false_implies, not_true_eq_false, reduceCtorEq, tl_s, tl_n, rf_s, List.cons_append, List.nil_append, true_or, or_true, a2, k1.1, l1.1, I_an1 (e := e) (by omega)]
      refine B_Joining_joinTwo_21 ?_
      simp only [wp_cons, wp_nil, List.getElem?_cons_zero, List.getElem?_cons_succ, List.set_cons_zero, List.set_cons_succ, s_aload, ldA_r, ldA_n, ldA_s, s_ifnull, pA_r, pA_n, true_and, and_true, Nat.le_refl, true_implies, forall_const, not_false_eq_true, false_implies, not_true_eq_false, reduceCtorEq, tl_s, tl_n, rf_s, List.cons_append, List.nil_append, true_or, or_true, a2, k1.1, l1.1, I_an1 (e := e) (by omega)]
      refine B_Joining_joinTwo_26 ?_
      simp only [wp_cons, wp_nil, List.getElem?_cons_zero, List.getElem?_cons_succ, List.set_cons_zero, List.set_cons_succ, s_aload_n3, ldA_r, ldA_n, ldA_s, s_getfield, pR_s, ob_s, gt_s, s_aload, s_iadd, p2_s, I_add, s_bipush, s_if_icmp_le, true_and, and_true, Nat.le_refl, true_implies, forall_const, not_false_eq_true, false_implies, not_true_eq_false, reduceCtorEq, tl_s, tl_n, rf_s, List.cons_append, List.nil_append, true_or, or_true, a2, k1.1, l1.1, I_an1 (e := e) (by omega)]
      refine b_le (by omega) (by omega) (fun cc => ?_) (fun cc => absurd cc (by omega))
      refine B_Joining_joinTwo_43 ?_
      simp only [wp_cons, wp_nil, List.getElem?_cons_zero, List.getElem?_cons_succ, List.set_cons_zero, List.set_cons_succ, s_iload_n1, ldI_s, s_iconst, s_iand, p2_s, s_ifCond_ne, p1_s, true_and, and_true, Nat.le_refl, true_implies, forall_const, not_false_eq_true, false_implies, not_true_eq_false, reduceCtorEq, tl_s, tl_n, rf_s, List.cons_append, List.nil_append, true_or, or_true, a2, k1.1, l1.1, I_an1 (e := e) (by omega)]
      refine b_ne (by omega) (by omega) (fun cc => ?_) (fun cc => absurd cc (by omega))
      refine key h chg.rf ?_
      unfold rvi
      rw [if_neg (by simpa using p), ← hst]
      exact st
  · refine B_Joining_joinTwo_15 ?_
    simp only [wp_cons, wp_nil, List.getElem?_cons_zero, List.getElem?_cons_succ, List.set_cons_zero, List.set_cons_succ, s_astore, pA_r, pA_n, s1_0, s1_s, kx_i, kx_r, kx_s, kx_n, kx_l, kx_0, s_aload_n3, ldA_r, ldA_n, ldA_s, s_ifnull, true_and, and_true, Nat.le_refl, true_implies, forall_const, not_false_eq_true, false_implies, not_true_eq_false, reduceCtorEq, tl_s, tl_n, rf_s, List.cons_append, List.nil_append, true_or, or_true, a2, k1.1, l1.1]
    refine B_Joining_joinTwo_21 ?_
    simp only [wp_cons, wp_nil, List.getElem?_cons_zero, List.getElem?_cons_succ, List.set_cons_zero, List.set_cons_succ, s_aload, ldA_r, ldA_n, ldA_s, s_ifnull, pA_r, pA_n, true_and, and_true, Nat.le_refl, true_implies, forall_const, not_false_eq_true, false_implies, not_true_eq_false, reduceCtorEq, tl_s, tl_n, rf_s, List.cons_append, List.nil_append, true_or, or_true, a2, k1.1, l1.1]
    refine B_Joining_joinTwo_26 ?_
    simp only [wp_cons, wp_nil, List.getElem?_cons_zero, List.getElem?_cons_succ, List.set_cons_zero, List.set_cons_succ, s_aload_n3, ldA_r, ldA_n, ldA_s, s_getfield, pR_s, ob_s, gt_s, s_aload, s_iadd, p2_s, I_add, s_bipush, s_if_icmp_le, true_and, and_true, Nat.le_refl, true_implies, forall_const, not_false_eq_true, false_implies, not_true_eq_false, reduceCtorEq, tl_s, tl_n, rf_s, List.cons_append, List.nil_append, true_or, or_true, a2, k1.1, l1.1]
    refine b_le (by omega) (by omega) (fun cc => absurd cc (by omega)) (fun cc => ?_)
    refine B_Joining_joinTwo_41 ?_
    simp only [wp_cons, wp_nil, List.getElem?_cons_zero, List.getElem?_cons_succ, List.set_cons_zero, List.set_cons_succ, s_iconst, s_ireturn, p1_s, rI_i, rI_z, rI_c, z_01, z_11, rt_Joining_joinTwo, true_and, and_true, Nat.le_refl, true_implies, forall_const, not_false_eq_true, false_implies, not_true_eq_false, reduceCtorEq, tl_s, tl_n, rf_s, List.cons_append, List.nil_append, true_or, or_true, a2, k1.1, l1.1]
    exact hF c
def jno (Ss : List Stk) (i j : Nat) : Prop := ∀ i' j' : Nat, (i' < i ∨ (i' = i ∧ j' < j)) → ¬ jv Ss i' j'
theorem jno.step {Ss : List Stk} {i j : Nat} (h : jno Ss i j) (hn : ¬ jv Ss i j) : jno Ss i (j + 1) := by
  intro i' j' c q
  by_cases e : i' = i ∧ j' = j
  · obtain ⟨rfl, rfl⟩ := e; exact hn q
  · exact h i' j' (by omega) q
theorem jno.row {Ss : List Stk} {i j : Nat} (h : jno Ss i j) (hn : ∀ j', j ≤ j' → ¬ jv Ss i j') : jno Ss (i + 1) (i + 1 + 1) := by
  intro i' j' c q
  by_cases e : i' < i ∨ (i' = i ∧ j' < j)
  · exact h i' j' e q
  · by_cases e2 : i' = i
    · subst e2; exact hn j' (by omega) q
    · have := q.1; omega
theorem jno.jb {Ss : List Stk} (w : wfD Ss) {i j : Nat} (h : jno Ss i j) (hv : jv Ss i j) : jb Ss i j := by
  refine ⟨hv, fun e' f' q => ?_⟩
  have a1 := wfD_e w hv.2.1
  have a2 := wfD_e w hv.2.2.1
  have a3 := wfD_e w q.2.1
  have a4 := wfD_e w q.2.2.1
  by_cases c : 20 * i + j ≤ 20 * e' + f'
  · exact c
  · exact absurd q (h e' f' (by omega))
theorem Jn_first_in {d dd : Nat} (d4 : 4 ≤ d) {σ : Nat → Nat} {Ss : List Stk} {pn : Stk} {h : g_H} {Q : g_Po} (w : wfD Ss) (ha : drw h dd σ Ss pn) (hT : ∀ e f h', jb Ss e f → chg dd (dd + 24) h h' → drL h' dd (jap Ss e f) pn → Q (some (.int (I 1))) h') (i : Nat) (hi : i < 2 * Ss.length)
    (hO : ∀ (j : Nat) (x3 : Option Value), jno Ss (i + 1) (i + 1 + 1) → G Joining_joinFirst d 0 0 0 0 2 [some (.ref dd), some (.int (I ((i + 1 : Nat) : Int))), some (.int (I (j : Int))), x3] [] h Q) :
    ∀ (m j : Nat) (x3 : Option Value), j + m = 2 * Ss.length → i < j → jno Ss i j →
    G Joining_joinFirst d 0 0 0 0 16 [some (.ref dd), some (.int (I (i : Int))), some (.int (I (j : Int))), x3] [] h Q := by
  have d1 : 1 ≤ d := by omega
  have hw := w.1
  obtain ⟨a1, a2, ⟨f, a3, a4⟩, a5, a6, a7, a8, a9⟩ := id ha
  intro m
  induction m with
  | zero =>
    intro j x3 hj hij hno
    have hend : jno Ss (i + 1) (i + 1 + 1) := hno.row (fun j' hj' q => by have := q.2.2.1.1; omega)
    refine B_Joining_joinFirst_16 ?_
    simp only [wp_cons, wp_nil, List.getElem?_cons_zero, List.getElem?_cons_succ, List.set_cons_zero, List.set_cons_succ, s_aload_n0, ldA_r, ldA_n, ldA_s, s_iload_n1, ldI_s, s_invokestatic, rc_s, ob_s, List.drop_succ_cons, List.drop_zero, List.take_succ_cons, List.take_zero, List.reverse_cons, List.reverse_nil, List.nil_append, List.cons_append, List.length_cons, List.length_nil, Nat.reduceEqDiff, eq_self, reduceIte, p1_s, p2_s, l1_s, d1, Int.reduceToNat, Nat.reduceAdd, Nat.reduceLeDiff, true_and, and_true, Nat.le_refl, true_implies, forall_const, not_false_eq_true, false_implies, not_true_eq_false, reduceCtorEq, tl_s, tl_n, rf_s, true_or, or_true, a2]
    refine Jn_open_c (by omega) ha hi (fun z => ?_) (fun z => ?_)
    · refine B_Joining_joinFirst_21 ?_
      simp only [wp_cons, wp_nil, List.getElem?_cons_zero, List.getElem?_cons_succ, List.set_cons_zero, List.set_cons_succ, s_ifCond_eq, p1_s, true_and, and_true, Nat.le_refl, true_implies, forall_const, not_false_eq_true, false_implies, not_true_eq_false, reduceCtorEq, tl_s, tl_n, rf_s, List.cons_append, List.nil_append, true_or, or_true, a2]
      refine b_eq (by omega) (by omega) (fun cc => absurd cc (by omega)) (fun cc => ?_)
      refine B_Joining_joinFirst_24 ?_
      simp only [wp_cons, wp_nil, List.getElem?_cons_zero, List.getElem?_cons_succ, List.set_cons_zero, List.set_cons_succ, s_iload_n2, ldI_s, s_iconst, s_aload_n0, ldA_r, ldA_n, ldA_s, s_getfield, pR_s, ob_s, gt_s, s_imul, p2_s, I_mul, s_if_icmp_ge, true_and, and_true, Nat.le_refl, true_implies, forall_const, not_false_eq_true, false_implies, not_true_eq_false, reduceCtorEq, tl_s, tl_n, rf_s, List.cons_append, List.nil_append, true_or, or_true, a2]
      refine b_le (by omega) (by omega) (fun cc => ?_) (fun cc => absurd cc (by omega))
      refine B_Joining_joinFirst_104 ?_
      simp only [wp_cons, wp_nil, List.getElem?_cons_zero, List.getElem?_cons_succ, List.set_cons_zero, List.set_cons_succ, s_iinc, ldI_s, s1_0, s1_s, kx_i, kx_r, kx_s, kx_n, kx_l, kx_0, I_add, s_goto, true_and, and_true, Nat.le_refl, true_implies, forall_const, not_false_eq_true, false_implies, not_true_eq_false, reduceCtorEq, tl_s, tl_n, rf_s, List.cons_append, List.nil_append, true_or, or_true, a2]
      exact hO _ _ hend
    · refine B_Joining_joinFirst_21 ?_
      simp only [wp_cons, wp_nil, List.getElem?_cons_zero, List.getElem?_cons_succ, List.set_cons_zero, List.set_cons_succ, s_ifCond_eq, p1_s, true_and, and_true, Nat.le_refl, true_implies, forall_const, not_false_eq_true, false_implies, not_true_eq_false, reduceCtorEq, tl_s, tl_n, rf_s, List.cons_append, List.nil_append, true_or, or_true, a2]
      refine B_Joining_joinFirst_104 ?_
      simp only [wp_cons, wp_nil, List.getElem?_cons_zero, List.getElem?_cons_succ, List.set_cons_zero, List.set_cons_succ, s_iinc, ldI_s, s1_0, s1_s, kx_i, kx_r, kx_s, kx_n, kx_l, kx_0, I_add, s_goto, true_and, and_true, Nat.le_refl, true_implies, forall_const, not_false_eq_true, false_implies, not_true_eq_false, reduceCtorEq, tl_s, tl_n, rf_s, List.cons_append, List.nil_append, true_or, or_true, a2]
      exact hO _ _ hend
  | succ m ih =>
    intro j x3 hj hij hno
    have skip : ¬ jv Ss i j → ∀ y, G Joining_joinFirst d 0 0 0 0 98 [some (.ref dd), some (.int (I (i : Int))), some (.int (I (j : Int))), y] [] h Q := by
      intro hn y
      refine B_Joining_joinFirst_98 ?_
      simp only [wp_cons, wp_nil, List.getElem?_cons_zero, List.getElem?_cons_succ, List.set_cons_zero, List.set_cons_succ, s_iinc, ldI_s, s1_0, s1_s, kx_i, kx_r, kx_s, kx_n, kx_l, kx_0, I_add, s_goto, true_and, and_true, Nat.le_refl, true_implies, forall_const, not_false_eq_true, false_implies, not_true_eq_false, reduceCtorEq, tl_s, tl_n, rf_s, List.cons_append, List.nil_append, true_or, or_true, a2]
      exact ih (j + 1) _ (by omega) (by omega) (hno.step hn)
    refine B_Joining_joinFirst_16 ?_
    simp only [wp_cons, wp_nil, List.getElem?_cons_zero, List.getElem?_cons_succ, List.set_cons_zero, List.set_cons_succ, s_aload_n0, ldA_r, ldA_n, ldA_s, s_iload_n1, ldI_s, s_invokestatic, rc_s, ob_s, List.drop_succ_cons, List.drop_zero, List.take_succ_cons, List.take_zero, List.reverse_cons, List.reverse_nil, List.nil_append, List.cons_append, List.length_cons, List.length_nil, Nat.reduceEqDiff, eq_self, reduceIte, p1_s, p2_s, l1_s, d1, Int.reduceToNat, Nat.reduceAdd, Nat.reduceLeDiff, true_and, and_true, Nat.le_refl, true_implies, forall_const, not_false_eq_true, false_implies, not_true_eq_false, reduceCtorEq, tl_s, tl_n, rf_s, true_or, or_true, a2, I_sh1 (e := i) (by omega), I_sh1 (e := j) (by omega)]
    refine Jn_open_c (by omega) ha hi (fun z1 => ?_) (fun z1 => ?_)
    · have o1 : eo Ss i := ⟨hi, z1⟩
      have p1 := (wfD_e w o1).2.1
      refine B_Joining_joinFirst_21 ?_
      simp only [wp_cons, wp_nil, List.getElem?_cons_zero, List.getElem?_cons_succ, List.set_cons_zero, List.set_cons_succ, s_ifCond_eq, p1_s, true_and, and_true, Nat.le_refl, true_implies, forall_const, not_false_eq_true, false_implies, not_true_eq_false, reduceCtorEq, tl_s, tl_n, rf_s, List.cons_append, List.nil_append, true_or, or_true, a2, I_sh1 (e := i) (by omega), I_sh1 (e := j) (by omega)]
      refine b_eq (by omega) (by omega) (fun cc => absurd cc (by omega)) (fun cc => ?_)
      refine B_Joining_joinFirst_24 ?_
      simp only [wp_cons, wp_nil, List.getElem?_cons_zero, List.getElem?_cons_succ, List.set_cons_zero, List.set_cons_succ, s_iload_n2, ldI_s, s_iconst, s_aload_n0, ldA_r, ldA_n, ldA_s, s_getfield, pR_s, ob_s, gt_s, s_imul, p2_s, I_mul, s_if_icmp_ge, true_and, and_true, Nat.le_refl, true_implies, forall_const, not_false_eq_true, false_implies, not_true_eq_false, reduceCtorEq, tl_s, tl_n, rf_s, List.cons_append, List.nil_append, true_or, or_true, a2, I_sh1 (e := i) (by omega), I_sh1 (e := j) (by omega)]
      refine b_le (by omega) (by omega) (fun cc => absurd cc (by omega)) (fun cc => ?_)
      refine B_Joining_joinFirst_34 ?_
      simp only [wp_cons, wp_nil, List.getElem?_cons_zero, List.getElem?_cons_succ, List.set_cons_zero, List.set_cons_succ, s_aload_n0, ldA_r, ldA_n, ldA_s, s_iload_n2, ldI_s, s_invokestatic, rc_s, ob_s, List.drop_succ_cons, List.drop_zero, List.take_succ_cons, List.take_zero, List.reverse_cons, List.reverse_nil, List.nil_append, List.cons_append, List.length_cons, List.length_nil, Nat.reduceEqDiff, eq_self, reduceIte, p1_s, p2_s, l1_s, d1, Int.reduceToNat, Nat.reduceAdd, Nat.reduceLeDiff, true_and, and_true, Nat.le_refl, true_implies, forall_const, not_false_eq_true, false_implies, not_true_eq_false, reduceCtorEq, tl_s, tl_n, rf_s, true_or, or_true, a2, I_sh1 (e := i) (by omega), I_sh1 (e := j) (by omega)]
      refine Jn_open_c (by omega) ha (by omega) (fun z2 => ?_) (fun z2 => ?_)
      · have o2 : eo Ss j := ⟨by omega, z2⟩
        have p2 := (wfD_e w o2).2.1
        refine B_Joining_joinFirst_39 ?_
        simp only [wp_cons, wp_nil, List.getElem?_cons_zero, List.getElem?_cons_succ, List.set_cons_zero, List.set_cons_succ, s_ifCond_eq, p1_s, true_and, and_true, Nat.le_refl, true_implies, forall_const, not_false_eq_true, false_implies, not_true_eq_false, reduceCtorEq, tl_s, tl_n, rf_s, List.cons_append, List.nil_append, true_or, or_true, a2, I_sh1 (e := i) (by omega), I_sh1 (e := j) (by omega)]
        refine b_eq (by omega) (by omega) (fun cc => absurd cc (by omega)) (fun cc => ?_)
        refine B_Joining_joinFirst_42 ?_
        simp only [wp_cons, wp_nil, List.getElem?_cons_zero, List.getElem?_cons_succ, List.set_cons_zero, List.set_cons_succ, s_aload_n0, ldA_r, ldA_n, ldA_s, s_iload_n1, ldI_s, s_invokestatic, rc_s, ob_s, List.drop_succ_cons, List.drop_zero, List.take_succ_cons, List.take_zero, List.reverse_cons, List.reverse_nil, List.nil_append, List.cons_append, List.length_cons, List.length_nil, Nat.reduceEqDiff, eq_self, reduceIte, p1_s, p2_s, l1_s, d1, Int.reduceToNat, Nat.reduceAdd, Nat.reduceLeDiff, true_and, and_true, Nat.le_refl, true_implies, forall_const, not_false_eq_true, false_implies, not_true_eq_false, reduceCtorEq, tl_s, tl_n, rf_s, true_or, or_true, a2, I_sh1 (e := i) (by omega), I_sh1 (e := j) (by omega)]
        refine Jn_end_c (by omega) w ha hi ?_
        refine B_Joining_joinFirst_47 ?_
        simp only [wp_cons, wp_nil, List.getElem?_cons_zero, List.getElem?_cons_succ, List.set_cons_zero, List.set_cons_succ, s_aload_n0, ldA_r, ldA_n, ldA_s, s_iload_n2, ldI_s, s_invokestatic, rc_s, ob_s, List.drop_succ_cons, List.drop_zero, List.take_succ_cons, List.take_zero, List.reverse_cons, List.reverse_nil, List.nil_append, List.cons_append, List.length_cons, List.length_nil, Nat.reduceEqDiff, eq_self, reduceIte, p1_s, p2_s, l1_s, d1, Int.reduceToNat, Nat.reduceAdd, Nat.reduceLeDiff, true_and, and_true, Nat.le_refl, true_implies, forall_const, not_false_eq_true, false_implies, not_true_eq_false, reduceCtorEq, tl_s, tl_n, rf_s, true_or, or_true, a2, I_sh1 (e := i) (by omega), I_sh1 (e := j) (by omega)]
        refine Jn_end_c (by omega) w ha (by omega) ?_
        by_cases c : ep Ss i = ep Ss j
        · by_cases cs : i / 2 = j / 2
          · refine B_Joining_joinFirst_52 ?_
            simp only [wp_cons, wp_nil, List.getElem?_cons_zero, List.getElem?_cons_succ, List.set_cons_zero, List.set_cons_succ, s_if_icmp_ne, p2_s, true_and, and_true, Nat.le_refl, true_implies, forall_const, not_false_eq_true, false_implies, not_true_eq_false, reduceCtorEq, tl_s, tl_n, rf_s, List.cons_append, List.nil_append, true_or, or_true, a2, I_sh1 (e := i) (by omega), I_sh1 (e := j) (by omega)]
            refine b_ne (by omega) (by omega) (fun cc => absurd cc (by omega)) (fun cc => ?_)
            refine B_Joining_joinFirst_55 ?_
            simp only [wp_cons, wp_nil, List.getElem?_cons_zero, List.getElem?_cons_succ, List.set_cons_zero, List.set_cons_succ, s_iconst, s_goto, true_and, and_true, Nat.le_refl, true_implies, forall_const, not_false_eq_true, false_implies, not_true_eq_false, reduceCtorEq, tl_s, tl_n, rf_s, List.cons_append, List.nil_append, true_or, or_true, a2, I_sh1 (e := i) (by omega), I_sh1 (e := j) (by omega)]
            refine B_Joining_joinFirst_60 ?_
            simp only [wp_cons, wp_nil, List.getElem?_cons_zero, List.getElem?_cons_succ, List.set_cons_zero, List.set_cons_succ, s_istore_n3, p1_s, s1_0, s1_s, kx_i, kx_r, kx_s, kx_n, kx_l, kx_0, s_iload_n3, ldI_s, s_ifCond_eq, true_and, and_true, Nat.le_refl, true_implies, forall_const, not_false_eq_true, false_implies, not_true_eq_false, reduceCtorEq, tl_s, tl_n, rf_s, List.cons_append, List.nil_append, true_or, or_true, a2, I_sh1 (e := i) (by omega), I_sh1 (e := j) (by omega)]
            refine b_eq (by omega) (by omega) (fun cc => absurd cc (by omega)) (fun cc => ?_)
            refine B_Joining_joinFirst_65 ?_
            simp only [wp_cons, wp_nil, List.getElem?_cons_zero, List.getElem?_cons_succ, List.set_cons_zero, List.set_cons_succ, s_iload_n1, ldI_s, s_iconst, s_ishr, p2_s, s_iload_n2, s_if_icmp_ne, true_and, and_true, Nat.le_refl, true_implies, forall_const, not_false_eq_true, false_implies, not_true_eq_false, reduceCtorEq, tl_s, tl_n, rf_s, List.cons_append, List.nil_append, true_or, or_true, a2, I_sh1 (e := i) (by omega), I_sh1 (e := j) (by omega)]
            refine b_ne (by omega) (by omega) (fun cc => absurd cc (by omega)) (fun cc => ?_)
            refine B_Joining_joinFirst_74 ?_
            simp only [wp_cons, wp_nil, List.getElem?_cons_zero, List.getElem?_cons_succ, List.set_cons_zero, List.set_cons_succ, s_aload_n0, ldA_r, ldA_n, ldA_s, s_iload_n1, ldI_s, s_iconst, s_ishr, p2_s, s_invokestatic, rc_s, ob_s, List.drop_succ_cons, List.drop_zero, List.take_succ_cons, List.take_zero, List.reverse_cons, List.reverse_nil, List.nil_append, List.cons_append, List.length_cons, List.length_nil, Nat.reduceEqDiff, eq_self, reduceIte, p1_s, l1_s, d1, Int.reduceToNat, Nat.reduceAdd, Nat.reduceLeDiff, true_and, and_true, Nat.le_refl, true_implies, forall_const, not_false_eq_true, false_implies, not_true_eq_false, reduceCtorEq, tl_s, tl_n, rf_s, true_or, or_true, a2, I_sh1 (e := i) (by omega), I_sh1 (e := j) (by omega)]
            refine Jn_close_c (by omega) w ha (by omega) (fun hz h' c' d' => ?_) (fun hz => ?_)
            · have hv : jv Ss i j := ⟨hij, o1, o2, c, fun _ => hz, fun q => absurd cs q⟩
              refine B_Joining_joinFirst_81 ?_
              simp only [wp_cons, wp_nil, List.getElem?_cons_zero, List.getElem?_cons_succ, List.set_cons_zero, List.set_cons_succ, s_ifCond_eq, p1_s, true_and, and_true, Nat.le_refl, true_implies, forall_const, not_false_eq_true, false_implies, not_true_eq_false, reduceCtorEq, tl_s, tl_n, rf_s, List.cons_append, List.nil_append, true_or, or_true, a2, I_sh1 (e := i) (by omega), I_sh1 (e := j) (by omega)]
              refine b_eq (by omega) (by omega) (fun cc => absurd cc (by omega)) (fun cc => ?_)
              refine B_Joining_joinFirst_84 ?_
              simp only [wp_cons, wp_nil, List.getElem?_cons_zero, List.getElem?_cons_succ, List.set_cons_zero, List.set_cons_succ, s_goto, true_and, and_true, Nat.le_refl, true_implies, forall_const, not_false_eq_true, false_implies, not_true_eq_false, reduceCtorEq, tl_s, tl_n, rf_s, List.cons_append, List.nil_append, true_or, or_true, a2, I_sh1 (e := i) (by omega), I_sh1 (e := j) (by omega)]
              refine B_Joining_joinFirst_96 ?_
              simp only [wp_cons, wp_nil, List.getElem?_cons_zero, List.getElem?_cons_succ, List.set_cons_zero, List.set_cons_succ, s_iconst, s_ireturn, p1_s, rI_i, rI_z, rI_c, z_01, z_11, rt_Joining_joinFirst, true_and, and_true, Nat.le_refl, true_implies, forall_const, not_false_eq_true, false_implies, not_true_eq_false, reduceCtorEq, tl_s, tl_n, rf_s, List.cons_append, List.nil_append, true_or, or_true, a2, I_sh1 (e := i) (by omega), I_sh1 (e := j) (by omega)]
              refine hT i j h' (hno.jb w hv) c' ?_
              unfold jap
              rw [if_pos cs]
              exact d'
            · refine B_Joining_joinFirst_81 ?_
              simp only [wp_cons, wp_nil, List.getElem?_cons_zero, List.getElem?_cons_succ, List.set_cons_zero, List.set_cons_succ, s_ifCond_eq, p1_s, true_and, and_true, Nat.le_refl, true_implies, forall_const, not_false_eq_true, false_implies, not_true_eq_false, reduceCtorEq, tl_s, tl_n, rf_s, List.cons_append, List.nil_append, true_or, or_true]
              exact skip (fun q => hz (q.2.2.2.2.1 cs)) _
          · refine B_Joining_joinFirst_52 ?_
            simp only [wp_cons, wp_nil, List.getElem?_cons_zero, List.getElem?_cons_succ, List.set_cons_zero, List.set_cons_succ, s_if_icmp_ne, p2_s, true_and, and_true, Nat.le_refl, true_implies, forall_const, not_false_eq_true, false_implies, not_true_eq_false, reduceCtorEq, tl_s, tl_n, rf_s, List.cons_append, List.nil_append, true_or, or_true, a2, I_sh1 (e := i) (by omega), I_sh1 (e := j) (by omega)]
            refine b_ne (by omega) (by omega) (fun cc => absurd cc (by omega)) (fun cc => ?_)
            refine B_Joining_joinFirst_55 ?_
            simp only [wp_cons, wp_nil, List.getElem?_cons_zero, List.getElem?_cons_succ, List.set_cons_zero, List.set_cons_succ, s_iconst, s_goto, true_and, and_true, Nat.le_refl, true_implies, forall_const, not_false_eq_true, false_implies, not_true_eq_false, reduceCtorEq, tl_s, tl_n, rf_s, List.cons_append, List.nil_append, true_or, or_true, a2, I_sh1 (e := i) (by omega), I_sh1 (e := j) (by omega)]
            refine B_Joining_joinFirst_60 ?_
            simp only [wp_cons, wp_nil, List.getElem?_cons_zero, List.getElem?_cons_succ, List.set_cons_zero, List.set_cons_succ, s_istore_n3, p1_s, s1_0, s1_s, kx_i, kx_r, kx_s, kx_n, kx_l, kx_0, s_iload_n3, ldI_s, s_ifCond_eq, true_and, and_true, Nat.le_refl, true_implies, forall_const, not_false_eq_true, false_implies, not_true_eq_false, reduceCtorEq, tl_s, tl_n, rf_s, List.cons_append, List.nil_append, true_or, or_true, a2, I_sh1 (e := i) (by omega), I_sh1 (e := j) (by omega)]
            refine b_eq (by omega) (by omega) (fun cc => absurd cc (by omega)) (fun cc => ?_)
            refine B_Joining_joinFirst_65 ?_
            simp only [wp_cons, wp_nil, List.getElem?_cons_zero, List.getElem?_cons_succ, List.set_cons_zero, List.set_cons_succ, s_iload_n1, ldI_s, s_iconst, s_ishr, p2_s, s_iload_n2, s_if_icmp_ne, true_and, and_true, Nat.le_refl, true_implies, forall_const, not_false_eq_true, false_implies, not_true_eq_false, reduceCtorEq, tl_s, tl_n, rf_s, List.cons_append, List.nil_append, true_or, or_true, a2, I_sh1 (e := i) (by omega), I_sh1 (e := j) (by omega)]
            refine b_ne (by omega) (by omega) (fun cc => ?_) (fun cc => absurd cc (by omega))
            refine B_Joining_joinFirst_87 ?_
            simp only [wp_cons, wp_nil, List.getElem?_cons_zero, List.getElem?_cons_succ, List.set_cons_zero, List.set_cons_succ, s_aload_n0, ldA_r, ldA_n, ldA_s, s_iload_n1, ldI_s, s_iload_n2, s_invokestatic, rc_s, ob_s, List.drop_succ_cons, List.drop_zero, List.take_succ_cons, List.take_zero, List.reverse_cons, List.reverse_nil, List.nil_append, List.cons_append, List.length_cons, List.length_nil, Nat.reduceEqDiff, eq_self, reduceIte, p1_s, p2_s, l1_s, d1, Int.reduceToNat, Nat.reduceAdd, Nat.reduceLeDiff, true_and, and_true, Nat.le_refl, true_implies, forall_const, not_false_eq_true, false_implies, not_true_eq_false, reduceCtorEq, tl_s, tl_n, rf_s, true_or, or_true, a2, I_sh1 (e := i) (by omega), I_sh1 (e := j) (by omega)]
            refine Jn_two_c (by omega) w ha o1 o2 cs (fun hz h' c' d' => ?_) (fun hz => ?_)
            · have hv : jv Ss i j := ⟨hij, o1, o2, c, fun q => absurd q cs, fun _ => hz⟩
              refine B_Joining_joinFirst_93 ?_
              simp only [wp_cons, wp_nil, List.getElem?_cons_zero, List.getElem?_cons_succ, List.set_cons_zero, List.set_cons_succ, s_ifCond_eq, p1_s, true_and, and_true, Nat.le_refl, true_implies, forall_const, not_false_eq_true, false_implies, not_true_eq_false, reduceCtorEq, tl_s, tl_n, rf_s, List.cons_append, List.nil_append, true_or, or_true, a2, I_sh1 (e := i) (by omega), I_sh1 (e := j) (by omega)]
              refine b_eq (by omega) (by omega) (fun cc => absurd cc (by omega)) (fun cc => ?_)
              refine B_Joining_joinFirst_96 ?_
              simp only [wp_cons, wp_nil, List.getElem?_cons_zero, List.getElem?_cons_succ, List.set_cons_zero, List.set_cons_succ, s_iconst, s_ireturn, p1_s, rI_i, rI_z, rI_c, z_01, z_11, rt_Joining_joinFirst, true_and, and_true, Nat.le_refl, true_implies, forall_const, not_false_eq_true, false_implies, not_true_eq_false, reduceCtorEq, tl_s, tl_n, rf_s, List.cons_append, List.nil_append, true_or, or_true, a2, I_sh1 (e := i) (by omega), I_sh1 (e := j) (by omega)]
              refine hT i j h' (hno.jb w hv) c' ?_
              unfold jap
              rw [if_neg cs]
              exact d'
            · refine B_Joining_joinFirst_93 ?_
              simp only [wp_cons, wp_nil, List.getElem?_cons_zero, List.getElem?_cons_succ, List.set_cons_zero, List.set_cons_succ, s_ifCond_eq, p1_s, true_and, and_true, Nat.le_refl, true_implies, forall_const, not_false_eq_true, false_implies, not_true_eq_false, reduceCtorEq, tl_s, tl_n, rf_s, List.cons_append, List.nil_append, true_or, or_true]
              exact skip (fun q => hz (q.2.2.2.2.2 cs)) _
        · refine B_Joining_joinFirst_52 ?_
          simp only [wp_cons, wp_nil, List.getElem?_cons_zero, List.getElem?_cons_succ, List.set_cons_zero, List.set_cons_succ, s_if_icmp_ne, p2_s, true_and, and_true, Nat.le_refl, true_implies, forall_const, not_false_eq_true, false_implies, not_true_eq_false, reduceCtorEq, tl_s, tl_n, rf_s, List.cons_append, List.nil_append, true_or, or_true, a2, I_sh1 (e := i) (by omega), I_sh1 (e := j) (by omega)]
          refine b_ne (by omega) (by omega) (fun cc => ?_) (fun cc => absurd cc c)
          refine B_Joining_joinFirst_59 ?_
          simp only [wp_cons, wp_nil, List.getElem?_cons_zero, List.getElem?_cons_succ, List.set_cons_zero, List.set_cons_succ, s_iconst, true_and, and_true, Nat.le_refl, true_implies, forall_const, not_false_eq_true, false_implies, not_true_eq_false, reduceCtorEq, tl_s, tl_n, rf_s, List.cons_append, List.nil_append, true_or, or_true, a2, I_sh1 (e := i) (by omega), I_sh1 (e := j) (by omega)]
          refine B_Joining_joinFirst_60 ?_
          simp only [wp_cons, wp_nil, List.getElem?_cons_zero, List.getElem?_cons_succ, List.set_cons_zero, List.set_cons_succ, s_istore_n3, p1_s, s1_0, s1_s, kx_i, kx_r, kx_s, kx_n, kx_l, kx_0, s_iload_n3, ldI_s, s_ifCond_eq, true_and, and_true, Nat.le_refl, true_implies, forall_const, not_false_eq_true, false_implies, not_true_eq_false, reduceCtorEq, tl_s, tl_n, rf_s, List.cons_append, List.nil_append, true_or, or_true, a2, I_sh1 (e := i) (by omega), I_sh1 (e := j) (by omega)]
          exact skip (fun q => c q.2.2.2.1) _
      · refine B_Joining_joinFirst_39 ?_
        simp only [wp_cons, wp_nil, List.getElem?_cons_zero, List.getElem?_cons_succ, List.set_cons_zero, List.set_cons_succ, s_ifCond_eq, p1_s, true_and, and_true, Nat.le_refl, true_implies, forall_const, not_false_eq_true, false_implies, not_true_eq_false, reduceCtorEq, tl_s, tl_n, rf_s, List.cons_append, List.nil_append, true_or, or_true, a2, I_sh1 (e := i) (by omega), I_sh1 (e := j) (by omega)]
        refine B_Joining_joinFirst_59 ?_
        simp only [wp_cons, wp_nil, List.getElem?_cons_zero, List.getElem?_cons_succ, List.set_cons_zero, List.set_cons_succ, s_iconst, true_and, and_true, Nat.le_refl, true_implies, forall_const, not_false_eq_true, false_implies, not_true_eq_false, reduceCtorEq, tl_s, tl_n, rf_s, List.cons_append, List.nil_append, true_or, or_true, a2, I_sh1 (e := i) (by omega), I_sh1 (e := j) (by omega)]
        refine B_Joining_joinFirst_60 ?_
        simp only [wp_cons, wp_nil, List.getElem?_cons_zero, List.getElem?_cons_succ, List.set_cons_zero, List.set_cons_succ, s_istore_n3, p1_s, s1_0, s1_s, kx_i, kx_r, kx_s, kx_n, kx_l, kx_0, s_iload_n3, ldI_s, s_ifCond_eq, true_and, and_true, Nat.le_refl, true_implies, forall_const, not_false_eq_true, false_implies, not_true_eq_false, reduceCtorEq, tl_s, tl_n, rf_s, List.cons_append, List.nil_append, true_or, or_true, a2, I_sh1 (e := i) (by omega), I_sh1 (e := j) (by omega)]
        exact skip (fun q => by have := q.2.2.1.2; rw [z2] at this; cases this) _
    · refine B_Joining_joinFirst_21 ?_
      simp only [wp_cons, wp_nil, List.getElem?_cons_zero, List.getElem?_cons_succ, List.set_cons_zero, List.set_cons_succ, s_ifCond_eq, p1_s, true_and, and_true, Nat.le_refl, true_implies, forall_const, not_false_eq_true, false_implies, not_true_eq_false, reduceCtorEq, tl_s, tl_n, rf_s, List.cons_append, List.nil_append, true_or, or_true, a2, I_sh1 (e := i) (by omega), I_sh1 (e := j) (by omega)]
      refine B_Joining_joinFirst_104 ?_
      simp only [wp_cons, wp_nil, List.getElem?_cons_zero, List.getElem?_cons_succ, List.set_cons_zero, List.set_cons_succ, s_iinc, ldI_s, s1_0, s1_s, kx_i, kx_r, kx_s, kx_n, kx_l, kx_0, I_add, s_goto, true_and, and_true, Nat.le_refl, true_implies, forall_const, not_false_eq_true, false_implies, not_true_eq_false, reduceCtorEq, tl_s, tl_n, rf_s, List.cons_append, List.nil_append, true_or, or_true, a2, I_sh1 (e := i) (by omega), I_sh1 (e := j) (by omega)]
      exact hO _ _ (hno.row (fun j' hj' q => by have := q.2.1.2; rw [z1] at this; cases this))
theorem Jn_first_l {d dd : Nat} (d4 : 4 ≤ d) {σ : Nat → Nat} {Ss : List Stk} {pn : Stk} {h : g_H} {Q : g_Po} (w : wfD Ss) (ha : drw h dd σ Ss pn) (hT : ∀ e f h', jb Ss e f → chg dd (dd + 24) h h' → drL h' dd (jap Ss e f) pn → Q (some (.int (I 1))) h') (hF : (¬ ∃ e f, jv Ss e f) → Q (some (.int (I 0))) h) :
    ∀ (m i : Nat) (x2 x3 : Option Value), i + m = 2 * Ss.length → jno Ss i (i + 1) →
    G Joining_joinFirst d 0 0 0 0 2 [some (.ref dd), some (.int (I (i : Int))), x2, x3] [] h Q := by
  have d1 : 1 ≤ d := by omega
  have hw := w.1
  obtain ⟨a1, a2, ⟨f, a3, a4⟩, a5, a6, a7, a8, a9⟩ := id ha
  intro m
  induction m with
  | zero =>
    intro i x2 x3 hi hno
    refine B_Joining_joinFirst_2 ?_
    simp only [wp_cons, wp_nil, List.getElem?_cons_zero, List.getElem?_cons_succ, List.set_cons_zero, List.set_cons_succ, s_iload_n1, ldI_s, s_iconst, s_aload_n0, ldA_r, ldA_n, ldA_s, s_getfield, pR_s, ob_s, gt_s, s_imul, p2_s, I_mul, s_if_icmp_ge, true_and, and_true, Nat.le_refl, true_implies, forall_const, not_false_eq_true, false_implies, not_true_eq_false, reduceCtorEq, tl_s, tl_n, rf_s, List.cons_append, List.nil_append, true_or, or_true, a2]
    refine b_le (by omega) (by omega) (fun cc => ?_) (fun cc => absurd cc (by omega))
    refine B_Joining_joinFirst_110 ?_
    simp only [wp_cons, wp_nil, List.getElem?_cons_zero, List.getElem?_cons_succ, List.set_cons_zero, List.set_cons_succ, s_iconst, s_ireturn, p1_s, rI_i, rI_z, rI_c, z_01, z_11, rt_Joining_joinFirst, true_and, and_true, Nat.le_refl, true_implies, forall_const, not_false_eq_true, false_implies, not_true_eq_false, reduceCtorEq, tl_s, tl_n, rf_s, List.cons_append, List.nil_append, true_or, or_true, a2]
    refine hF (fun q => ?_)
    obtain ⟨e, f, q⟩ := q
    have := q.2.1.1
    exact hno e f (by omega) q
  | succ m ih =>
    intro i x2 x3 hi hno
    refine B_Joining_joinFirst_2 ?_
    simp only [wp_cons, wp_nil, List.getElem?_cons_zero, List.getElem?_cons_succ, List.set_cons_zero, List.set_cons_succ, s_iload_n1, ldI_s, s_iconst, s_aload_n0, ldA_r, ldA_n, ldA_s, s_getfield, pR_s, ob_s, gt_s, s_imul, p2_s, I_mul, s_if_icmp_ge, true_and, and_true, Nat.le_refl, true_implies, forall_const, not_false_eq_true, false_implies, not_true_eq_false, reduceCtorEq, tl_s, tl_n, rf_s, List.cons_append, List.nil_append, true_or, or_true, a2]
    refine b_le (by omega) (by omega) (fun cc => absurd cc (by omega)) (fun cc => ?_)
    refine B_Joining_joinFirst_12 ?_
    simp only [wp_cons, wp_nil, List.getElem?_cons_zero, List.getElem?_cons_succ, List.set_cons_zero, List.set_cons_succ, s_iload_n1, ldI_s, s_iconst, s_iadd, p2_s, I_add, s_istore_n2, p1_s, s1_0, s1_s, kx_i, kx_r, kx_s, kx_n, kx_l, kx_0, true_and, and_true, Nat.le_refl, true_implies, forall_const, not_false_eq_true, false_implies, not_true_eq_false, reduceCtorEq, tl_s, tl_n, rf_s, List.cons_append, List.nil_append, true_or, or_true, a2]
    exact Jn_first_in d4 w ha hT i (by omega) (fun j x3 hn => ih (i + 1) _ _ (by omega) hn) (2 * Ss.length - (i + 1)) (i + 1) _ (by omega) (by omega) hno
theorem Jn_first_c {d dd : Nat} (d4 : 4 ≤ d) {Ss : List Stk} {pn : Stk} {h : g_H} {Q : g_Po} (w : wfD Ss) (ha : drL h dd Ss pn) (hT : ∀ e f h', jb Ss e f → chg dd (dd + 24) h h' → drL h' dd (jap Ss e f) pn → Q (some (.int (I 1))) h') (hF : (¬ ∃ e f, jv Ss e f) → Q (some (.int (I 0))) h) : Call Joining_joinFirst d 0 0 [.ref dd] h Q := by
  obtain ⟨σ, ha⟩ := ha
  refine Call.intro (by rfl) (Nat.le_of_ble_eq_true rfl) ?_
  refine G.eqL (L := [some (.ref _), none, none, none]) rfl ?_
  refine B_Joining_joinFirst_0 ?_
  simp only [wp_cons, wp_nil, List.getElem?_cons_zero, List.getElem?_cons_succ, List.set_cons_zero, List.set_cons_succ, s_iconst, s_istore_n1, p1_s, s1_0, s1_s, kx_i, kx_r, kx_s, kx_n, kx_l, kx_0, true_and, and_true, Nat.le_refl, true_implies, forall_const, not_false_eq_true, false_implies, not_true_eq_false, reduceCtorEq, tl_s, tl_n, rf_s, List.cons_append, List.nil_append, true_or, or_true]
  exact Jn_first_l d4 w ha hT hF (2 * Ss.length) 0 _ _ (by omega) (fun i' j' c q => by have := q.1; omega)
theorem Jn_ends_l {d dd : Nat} (d5 : 5 ≤ d) {S' : List Stk} {pn : Stk} {h0 : g_H} {Q : g_Po} (hQ : ∀ h', chg dd (dd + 24) h0 h' → drL h' dd S' pn → Q none h') :
    ∀ (k t : Nat) (Ss : List Stk) (h : g_H), jit k Ss S' → t + oc Ss Ss.length ≤ 10 → wfD Ss → chg dd (dd + 24) h0 h → drL h dd Ss pn →
    G Joining_joinEnds d 0 0 0 0 2 [some (.ref dd), some (.int (I (t : Int)))] [] h Q := by
  have d1 : 1 ≤ d := by omega
  intro k
  induction k with
  | zero =>
    intro t Ss h hk ht w hc ha
    by_cases c : t = 10
    · refine B_Joining_joinEnds_2 ?_
      simp only [wp_cons, wp_nil, List.getElem?_cons_zero, List.getElem?_cons_succ, List.set_cons_zero, List.set_cons_succ, s_iload_n1, ldI_s, s_bipush, s_if_icmp_ge, p2_s, true_and, and_true, Nat.le_refl, true_implies, forall_const, not_false_eq_true, false_implies, not_true_eq_false, reduceCtorEq, tl_s, tl_n, rf_s, List.cons_append, List.nil_append, true_or, or_true]
      refine b_le (by omega) (by omega) (fun cc => ?_) (fun cc => absurd cc (by omega))
      refine B_Joining_joinEnds_21 ?_
      simp only [wp_cons, wp_nil, List.getElem?_cons_zero, List.getElem?_cons_succ, List.set_cons_zero, List.set_cons_succ, s_return_, rt_Joining_joinEnds, true_and, and_true, Nat.le_refl, true_implies, forall_const, not_false_eq_true, false_implies, not_true_eq_false, reduceCtorEq, tl_s, tl_n, rf_s, List.cons_append, List.nil_append, true_or, or_true]
      exact hQ h hc (by rw [hk.1]; exact ha)
    · refine B_Joining_joinEnds_2 ?_
      simp only [wp_cons, wp_nil, List.getElem?_cons_zero, List.getElem?_cons_succ, List.set_cons_zero, List.set_cons_succ, s_iload_n1, ldI_s, s_bipush, s_if_icmp_ge, p2_s, true_and, and_true, Nat.le_refl, true_implies, forall_const, not_false_eq_true, false_implies, not_true_eq_false, reduceCtorEq, tl_s, tl_n, rf_s, List.cons_append, List.nil_append, true_or, or_true]
      refine b_le (by omega) (by omega) (fun cc => absurd cc (by omega)) (fun cc => ?_)
      refine B_Joining_joinEnds_8 ?_
      simp only [wp_cons, wp_nil, List.getElem?_cons_zero, List.getElem?_cons_succ, List.set_cons_zero, List.set_cons_succ, s_aload_n0, ldA_r, ldA_n, ldA_s, s_invokestatic, rc_s, ob_s, List.drop_succ_cons, List.drop_zero, List.take_succ_cons, List.take_zero, List.reverse_cons, List.reverse_nil, List.nil_append, List.cons_append, List.length_cons, List.length_nil, Nat.reduceEqDiff, eq_self, reduceIte, p1_s, p2_s, l1_s, d1, Int.reduceToNat, Nat.reduceAdd, Nat.reduceLeDiff, true_and, and_true, Nat.le_refl, true_implies, forall_const, not_false_eq_true, false_implies, not_true_eq_false, reduceCtorEq, tl_s, tl_n, rf_s, true_or, or_true]
      refine Jn_first_c (by omega) w ha (fun e f h' hb _ _ => absurd ⟨e, f, hb.1⟩ hk.2) (fun _ => ?_)
      refine B_Joining_joinEnds_12 ?_
      simp only [wp_cons, wp_nil, List.getElem?_cons_zero, List.getElem?_cons_succ, List.set_cons_zero, List.set_cons_succ, s_ifCond_eq, p1_s, true_and, and_true, Nat.le_refl, true_implies, forall_const, not_false_eq_true, false_implies, not_true_eq_false, reduceCtorEq, tl_s, tl_n, rf_s, List.cons_append, List.nil_append, true_or, or_true]
      refine B_Joining_joinEnds_21 ?_
      simp only [wp_cons, wp_nil, List.getElem?_cons_zero, List.getElem?_cons_succ, List.set_cons_zero, List.set_cons_succ, s_return_, rt_Joining_joinEnds, true_and, and_true, Nat.le_refl, true_implies, forall_const, not_false_eq_true, false_implies, not_true_eq_false, reduceCtorEq, tl_s, tl_n, rf_s, List.cons_append, List.nil_append, true_or, or_true]
      exact hQ h hc (by rw [hk.1]; exact ha)
  | succ k ih =>
    intro t Ss h hk ht w hc ha
    obtain ⟨e, f, hb, hk⟩ := hk
    have h1 := (jap_ok w hb.1).2
    refine B_Joining_joinEnds_2 ?_
    simp only [wp_cons, wp_nil, List.getElem?_cons_zero, List.getElem?_cons_succ, List.set_cons_zero, List.set_cons_succ, s_iload_n1, ldI_s, s_bipush, s_if_icmp_ge, p2_s, true_and, and_true, Nat.le_refl, true_implies, forall_const, not_false_eq_true, false_implies, not_true_eq_false, reduceCtorEq, tl_s, tl_n, rf_s, List.cons_append, List.nil_append, true_or, or_true]
    refine b_le (by omega) (by omega) (fun cc => absurd cc (by omega)) (fun cc => ?_)
    refine B_Joining_joinEnds_8 ?_
    simp only [wp_cons, wp_nil, List.getElem?_cons_zero, List.getElem?_cons_succ, List.set_cons_zero, List.set_cons_succ, s_aload_n0, ldA_r, ldA_n, ldA_s, s_invokestatic, rc_s, ob_s, List.drop_succ_cons, List.drop_zero, List.take_succ_cons, List.take_zero, List.reverse_cons, List.reverse_nil, List.nil_append, List.cons_append, List.length_cons, List.length_nil, Nat.reduceEqDiff, eq_self, reduceIte, p1_s, p2_s, l1_s, d1, Int.reduceToNat, Nat.reduceAdd, Nat.reduceLeDiff, true_and, and_true, Nat.le_refl, true_implies, forall_const, not_false_eq_true, false_implies, not_true_eq_false, reduceCtorEq, tl_s, tl_n, rf_s, true_or, or_true]
    refine Jn_first_c (by omega) w ha (fun e' f' h' hb' c' a' => ?_) (fun q => absurd ⟨e, f, hb.1⟩ q)
    obtain ⟨rfl, rfl⟩ := jb_un w hb hb'
    refine B_Joining_joinEnds_12 ?_
    simp only [wp_cons, wp_nil, List.getElem?_cons_zero, List.getElem?_cons_succ, List.set_cons_zero, List.set_cons_succ, s_ifCond_eq, p1_s, true_and, and_true, Nat.le_refl, true_implies, forall_const, not_false_eq_true, false_implies, not_true_eq_false, reduceCtorEq, tl_s, tl_n, rf_s, List.cons_append, List.nil_append, true_or, or_true]
    refine b_eq (by omega) (by omega) (fun cc => absurd cc (by omega)) (fun cc => ?_)
    refine B_Joining_joinEnds_15 ?_
    simp only [wp_cons, wp_nil, List.getElem?_cons_zero, List.getElem?_cons_succ, List.set_cons_zero, List.set_cons_succ, s_iinc, ldI_s, s1_0, s1_s, kx_i, kx_r, kx_s, kx_n, kx_l, kx_0, I_add, s_goto, true_and, and_true, Nat.le_refl, true_implies, forall_const, not_false_eq_true, false_implies, not_true_eq_false, reduceCtorEq, tl_s, tl_n, rf_s, List.cons_append, List.nil_append, true_or, or_true]
    exact ih (t + 1) _ h' hk (by omega) (jap_ok w hb.1).1 (hc.tr c') a'
theorem Jn_ends_c {d dd : Nat} (d5 : 5 ≤ d) {Ss : List Stk} {pn : Stk} {h : g_H} {Q : g_Po} (w : wfD Ss) (ha : drL h dd Ss pn) (hQ : ∀ h', chg dd (dd + 24) h h' → drL h' dd (joinF Ss) pn → Q none h') : Call Joining_joinEnds d 0 0 [.ref dd] h Q := by
  obtain ⟨k, hk⟩ := joinF_ok w
  have h1 := oc_le Ss Ss.length
  have h2 := w.1
  refine Call.intro (by rfl) (Nat.le_of_ble_eq_true rfl) ?_
  refine G.eqL (L := [some (.ref _), none]) rfl ?_
  refine B_Joining_joinEnds_0 ?_
  simp only [wp_cons, wp_nil, List.getElem?_cons_zero, List.getElem?_cons_succ, List.set_cons_zero, List.set_cons_succ, s_iconst, s_istore_n1, p1_s, s1_0, s1_s, kx_i, kx_r, kx_s, kx_n, kx_l, kx_0, true_and, and_true, Nat.le_refl, true_implies, forall_const, not_false_eq_true, false_implies, not_true_eq_false, reduceCtorEq, tl_s, tl_n, rf_s, List.cons_append, List.nil_append, true_or, or_true]
  exact Jn_ends_l d5 hQ k 0 Ss h hk (by omega) w chg.rf ha
