/-! ===== what holds in every world is kept by every call ===== -/
theorem wfD.set {Ss : List Stk} (w : wfD Ss) {i : Nat} {S : Stk} (hi : i < Ss.length) (hS : wfS S) : wfD (Ss.set i S) := by
  refine ⟨by rw [List.length_set]; exact w.1, fun j hj => ?_⟩
  rw [List.length_set] at hj
  rw [sg_set _ _ _ hi]
  split
  · exact hS
  · exact w.2 j hj
theorem wfD.app {Ss : List Stk} (w : wfD Ss) {S : Stk} (hl : Ss.length < 10) (hS : wfS S) : wfD (Ss ++ [S]) := by
  refine ⟨by rw [List.length_append]; show Ss.length + 1 ≤ 10; omega, fun j hj => ?_⟩
  rw [List.length_append] at hj
  replace hj : j < Ss.length + 1 := hj
  by_cases e : j < Ss.length
  · rw [sg_app_l _ _ e]; exact w.2 j e
  · rw [sg_app_r _ _ (by omega), show j - Ss.length = 0 by omega]; exact hS
theorem wfD.erase {Ss : List Stk} (w : wfD Ss) (i : Nat) : wfD (Ss.eraseIdx i) := by
  have hl : (Ss.eraseIdx i).length = if i < Ss.length then Ss.length - 1 else Ss.length := List.length_eraseIdx
  have w1 := w.1
  refine ⟨by rw [hl]; split <;> omega, fun j hj => ?_⟩
  rw [hl] at hj
  rw [sg_erase]
  split
  · exact w.2 j (by split at hj <;> omega)
  · refine w.2 (j + 1) ?_
    split at hj <;> omega
theorem wf_mk {s : Sta} {W : Wd} (w : wfW W) (h : wfA s) : wfW (mkW s W) := by
  obtain ⟨w1, ⟨w2, w3⟩, w4⟩ := w
  refine ⟨h, ⟨?_, ?_⟩, w4⟩
  · show (hadd W.2.1 W.1).length ≤ 6
    unfold hadd
    rw [List.length_append]
    show _ + 1 ≤ 6
    split
    · rw [List.length_tail]; omega
    · omega
  · show ∀ i, i < (hadd W.2.1 W.1).length → wfA (hg (hadd W.2.1 W.1) i)
    unfold hadd
    intro i hi
    rw [List.length_append] at hi
    replace hi : i < (if W.2.1.length = 6 then W.2.1.tail else W.2.1).length + 1 := hi
    by_cases e : i < (if W.2.1.length = 6 then W.2.1.tail else W.2.1).length
    · rw [hg_app_l _ _ e]
      by_cases c : W.2.1.length = 6
      · rw [if_pos c] at e ⊢
        rw [List.length_tail] at e
        rw [hg_tail]
        exact w3 _ (by omega)
      · rw [if_neg c] at e ⊢
        exact w3 _ e
    · rw [hg_app_r _ _ (by omega), show i - _ = 0 from Nat.sub_eq_zero_of_le (by omega)]
      exact w1
theorem wf_set {W : Wd} {Ss : List Stk} (w : wfW W) (h : wfD Ss) : wfW (setD W Ss) := wf_mk w ⟨h, w.1.2⟩
theorem wfP_nil : wfP ([], false) := ⟨by simp, stP_nil, fun i hi => absurd hi (by simp), rfl⟩
theorem kp_W0 : wfW W0 := ⟨⟨⟨by simp [W0], fun i hi => absurd hi (by simp [W0])⟩, wfP_nil⟩, ⟨by simp [W0], fun i hi => absurd hi (by simp [W0])⟩, ⟨by simp [W0], fun i hi => absurd hi (by simp [W0])⟩⟩
theorem plc_pt {x y : Int} (h : plc x y) : pt (1000 * x + y) := by omega
theorem kp_down {W : Wd} (w : wfW W) (x y : Int) : wfW (sp_down W x y).2 := by
  unfold sp_down
  split
  · exact w
  · rename_i h1
    split
    · exact w
    · rename_i h2
      split
      · exact w
      · refine wf_mk w ⟨w.1.1, ?_, ?_, ?_, w.1.2.2.2.2⟩
        · show (W.1.2.1 ++ [1000 * x + y]).length ≤ 30
          rw [List.length_append]; show _ + 1 ≤ 30; omega
        · exact stP_app w.1.2.2.1 (stP_one (plc_pt (Decidable.not_not.mp h1)))
        · intro i hi
          replace hi : i + 1 < (W.1.2.1 ++ [1000 * x + y]).length := hi
          rw [List.length_append] at hi
          replace hi : i + 1 < W.1.2.1.length + 1 := hi
          omega
theorem kp_draw {W : Wd} (w : wfW W) (x y : Int) : wfW (sp_draw W x y).2 := by
  unfold sp_draw
  split
  · exact w
  · rename_i h1
    split
    · exact w
    · rename_i h2
      split
      · exact w
      · refine wf_mk w ⟨w.1.1, ?_, ?_, ?_, w.1.2.2.2.2⟩
        · show (W.1.2.1 ++ [1000 * x + y]).length ≤ 30
          rw [List.length_append]; show _ + 1 ≤ 30; omega
        · exact stP_app w.1.2.2.1 (stP_one (plc_pt (Decidable.not_not.mp h1)))
        · intro i hi
          replace hi : i + 1 < (W.1.2.1 ++ [1000 * x + y]).length := hi
          rw [List.length_append] at hi
          replace hi : i + 1 < W.1.2.1.length + 1 := hi
          show pg (W.1.2.1 ++ [1000 * x + y]) i ≠ pg (W.1.2.1 ++ [1000 * x + y]) (i + 1)
          rw [pg_app_l _ _ (by omega)]
          by_cases e : i + 1 < W.1.2.1.length
          · rw [pg_app_l _ _ e]; exact w.1.2.2.2.1 i e
          · rw [pg_app_r _ _ (by omega), show i + 1 - W.1.2.1.length = 0 by omega, show i = W.1.2.1.length - 1 by omega]
            exact fun q => h2 (Or.inr q)
theorem kp_lift {W : Wd} (w : wfW W) : wfW (sp_lift W).2 := by
  obtain ⟨v1, v2, v3, v4⟩ := w.1.2
  unfold sp_lift
  split
  · exact w
  · split
    · split
      · exact w
      · refine wf_mk w ⟨w.1.1.app (by omega) ⟨by assumption, v1, v2, v3, fun q => ?_⟩, wfP_nil⟩
        rw [v4] at q
        cases q
    · exact wf_mk w ⟨w.1.1, wfP_nil⟩
theorem smpS_wf {S : Stk} (w : wfS S) {t : Int} (ht : 0 ≤ t ∧ t ≤ 200) : wfS (smpS S t) := by
  obtain ⟨w1, w2, w3, w4, w5⟩ := id w
  unfold smpS
  split
  · exact w
  · rename_i h
    have h1 : rep (picS S t, S.2) = -6 := Decidable.not_not.mp (fun q => h (Or.inl q))
    have h2 : S.2 = true → ¬ (picS S t).length < 3 := fun q1 q2 => h (Or.inr ⟨q1, q2⟩)
    obtain ⟨r1, r2⟩ := rep_no.mp h1
    dsimp only at r1 r2
    have l0 : levS S 0 = 200 := if_pos (Or.inl rfl)
    have hle : (picS S t).length ≤ S.1.length := pick_len _ _ _
    refine ⟨?_, by show (picS S t).length ≤ 30; omega, pick_pt _ w3 _ (Nat.le_refl _), fun i hi => ?_, fun q => ?_⟩
    · show 2 ≤ (picS S t).length
      cases z : S.2 with
      | true => have := h2 z; omega
      | false =>
        have hpc : pcs S = S.1.length - 1 := by unfold pcs; rw [if_neg (by rw [z]; decide)]
        have l1 : levS S (S.1.length - 1) = 200 := if_pos (Or.inr hpc.symm)
        have a1 := pick_ne (fun i => decide (t ≤ levS S i)) S.1 (by simp [l0]; omega) (S.1.length - 1) (by omega)
        unfold picS
        obtain ⟨m, hm⟩ : ∃ m, S.1.length = m + 1 := ⟨S.1.length - 1, by omega⟩
        rw [hm] at l1 a1 ⊢
        rw [show m + 1 - 1 = m by omega] at l1 a1
        show 2 ≤ (pick _ S.1 m ++ _).length
        rw [List.length_append, if_pos (by show decide (t ≤ levS S m) = true; rw [l1]; simpa using ht.2)]
        show 2 ≤ _ + 1
        omega
    · exact fun q => r1 (i + 1) (by omega) hi (by rw [show i + 1 - 1 = i by omega]; exact q.symm)
    · exact ⟨by show 3 ≤ (picS S t).length; have := h2 q; omega, fun q2 => r2 ⟨q, q2⟩⟩
theorem in_lt {Ss : List Stk} {s : Int} (h : inS Ss s) : s.toNat < Ss.length := by
  have := h.1
  have := h.2
  omega
theorem kp_simp {W : Wd} (w : wfW W) (s t : Int) : wfW (sp_simp W s t).2 := by
  unfold sp_simp
  split
  · exact w
  · rename_i h1
    split
    · exact w
    · rename_i h2
      have h3 := in_lt (Decidable.not_not.mp h1)
      exact wf_set w (w.1.1.set h3 (smpS_wf (w.1.1.2 _ h3) (Decidable.not_not.mp h2)))
theorem kp_weld {W : Wd} (w : wfW W) (r : Int) : wfW (sp_weld W r).2 := by
  unfold sp_weld
  split
  · exact w
  · exact wf_set w (weldF_wf w.1.1)
theorem kp_join {W : Wd} (w : wfW W) : wfW (sp_join W).2 := wf_set w (joinF_wf w.1.1)
theorem map_wf {S : Stk} (w : wfS S) {f : Int → Int} (h1 : ∀ k, k < S.1.length → pt (f (pg S.1 k))) (h2 : ∀ j k, j < S.1.length → k < S.1.length → f (pg S.1 j) = f (pg S.1 k) → pg S.1 j = pg S.1 k) : wfS (S.1.map f, S.2) := by
  obtain ⟨w1, w2, w3, w4, w5⟩ := w
  refine ⟨by rw [List.length_map]; exact w1, by rw [List.length_map]; exact w2, fun i hi => ?_, fun i hi => ?_, fun q => ?_⟩
  · rw [List.length_map] at hi
    rw [pg_map _ _ hi]; exact h1 i hi
  · replace hi : i + 1 < (S.1.map f).length := hi
    rw [List.length_map] at hi
    show pg (S.1.map f) i ≠ pg (S.1.map f) (i + 1)
    rw [pg_map _ _ (by omega), pg_map _ _ hi]
    exact fun q => w4 i hi (h2 i (i + 1) (by omega) hi q)
  · obtain ⟨w6, w7⟩ := w5 q
    show 3 ≤ (S.1.map f).length ∧ pg (S.1.map f) 0 ≠ pg (S.1.map f) ((S.1.map f).length - 1)
    rw [List.length_map]
    refine ⟨w6, ?_⟩
    rw [pg_map _ _ (by omega), pg_map _ _ (by omega)]
    exact fun q => w7 (h2 0 (S.1.length - 1) (by omega) (by omega) q)
theorem kp_move {W : Wd} (w : wfW W) (s dx dy : Int) : wfW (sp_move W s dx dy).2 := by
  unfold sp_move
  split
  · exact w
  · rename_i h1
    have h3 := in_lt (Decidable.not_not.mp h1)
    split
    · exact w
    · split
      · exact w
      · rename_i h2
        have h4 := Classical.not_not.mp h2
        refine wf_set w (w.1.1.set h3 (map_wf (w.1.1.2 _ h3) (fun k hk => plc_pt (h4 k hk)) (fun j k hj hk q => ?_)))
        unfold mvx at q
        omega
theorem kp_turn {W : Wd} (w : wfW W) (s q : Int) : wfW (sp_turn W s q).2 := by
  unfold sp_turn
  split
  · exact w
  · rename_i h1
    have h3 := in_lt (Decidable.not_not.mp h1)
    split
    · exact w
    · rename_i h5
      split
      · exact w
      · rename_i h2
        have h4 := Classical.not_not.mp h2
        refine wf_set w (w.1.1.set h3 (map_wf (w.1.1.2 _ h3) (fun k hk => plc_pt (h4 k hk)) (fun j k hj hk e => ?_)))
        have a1 := h4 j hj
        have a2 := h4 k hk
        have b1 := (w.1.1.2 _ h3).2.2.1 j hj
        have b2 := (w.1.1.2 _ h3).2.2.1 k hk
        have h5 := Decidable.not_not.mp h5
        have h6 : q = 1 ∨ q = 2 ∨ q = 3 := by omega
        unfold tnp at e
        unfold tnx tny at a1 a2 e
        rcases h6 with rfl | rfl | rfl <;> simp only [Int.reduceEq, reduceIte] at a1 a2 e <;> omega
theorem kp_rev {W : Wd} (w : wfW W) (s : Int) : wfW (sp_rev W s).2 := by
  unfold sp_rev
  split
  · exact w
  · rename_i h1
    have h3 := in_lt (Decidable.not_not.mp h1)
    have wS := w.1.1.2 _ h3
    have v := rvi_wf wS true
    obtain ⟨w1, w2, w3, w4, w5⟩ := wS
    have e : rvi true (sg W.1.1 s.toNat).1 = (sg W.1.1 s.toNat).1.reverse := by unfold rvi; rw [if_pos rfl]
    rw [e] at v
    refine wf_set w (w.1.1.set h3 ⟨by rw [List.length_reverse]; exact w1, by rw [List.length_reverse]; exact w2, v.1, fun i hi => v.2 i (by rw [List.length_reverse] at hi; exact hi), fun q => ?_⟩)
    obtain ⟨w6, w7⟩ := w5 q
    show 3 ≤ (sg W.1.1 s.toNat).1.reverse.length ∧ pg (sg W.1.1 s.toNat).1.reverse 0 ≠ pg (sg W.1.1 s.toNat).1.reverse ((sg W.1.1 s.toNat).1.reverse.length - 1)
    rw [List.length_reverse, pg_rev _ (by omega), pg_rev _ (by omega)]
    refine ⟨w6, fun q => w7 ?_⟩
    rw [show (sg W.1.1 s.toNat).1.length - 1 - ((sg W.1.1 s.toNat).1.length - 1) = 0 by omega, Nat.sub_zero] at q
    exact q.symm
theorem kp_close {W : Wd} (w : wfW W) (s : Int) : wfW (sp_close W s).2 := by
  unfold sp_close
  split
  · exact w
  · rename_i h1
    have h3 := in_lt (Decidable.not_not.mp h1)
    obtain ⟨w1, w2, w3, w4, w5⟩ := w.1.1.2 _ h3
    split
    · exact w
    · rename_i h2
      refine wf_set w (w.1.1.set h3 ⟨w1, w2, w3, w4, fun _ => ⟨?_, fun q => h2 (Or.inr (Or.inr q))⟩⟩)
      have : ¬ (sg W.1.1 s.toNat).1.length < 3 := fun q => h2 (Or.inr (Or.inl q))
      show 3 ≤ (sg W.1.1 s.toNat).1.length
      omega
theorem kp_split {W : Wd} (w : wfW W) (s k : Int) : wfW (sp_split W s k).2 := by
  unfold sp_split
  split
  · exact w
  · rename_i h1
    obtain ⟨h2, h4, h5⟩ := Decidable.not_not.mp h1
    have h3 := in_lt h2
    obtain ⟨w1, w2, w3, w4, w5⟩ := w.1.1.2 _ h3
    obtain ⟨n, rfl⟩ : ∃ n : Nat, k = n := ⟨k.toNat, by omega⟩
    rw [show ((n : Int)).toNat = n by omega]
    generalize hS : sg W.1.1 s.toNat = S at w1 w2 w3 w4 w5 h5
    have tp : stP (S.1.take (n + 1)) := fun i hi => by
      rw [List.length_take] at hi
      rw [pg_take _ (by omega)]; exact w3 i (by omega)
    have dp : stP (S.1.drop n) := fun i hi => by
      rw [List.length_drop] at hi
      rw [pg_drop]; exact w3 _ (by omega)
    split
    · rename_i hz
      obtain ⟨w6, w7⟩ := w5 hz
      split
      · exact w
      · have hl : (S.1.drop n ++ S.1.take (n + 1)).length = S.1.length + 1 := by rw [List.length_append, List.length_drop, List.length_take]; omega
        refine wf_set w (w.1.1.set h3 ⟨by show 2 ≤ (S.1.drop n ++ S.1.take (n + 1)).length; omega, by show (S.1.drop n ++ S.1.take (n + 1)).length ≤ 30; omega, stP_app dp tp, fun i hi => ?_, fun q => by cases q⟩)
        replace hi : i + 1 < (S.1.drop n ++ S.1.take (n + 1)).length := hi
        rw [hl] at hi
        have g : ∀ j, j < S.1.length + 1 → pg (S.1.drop n ++ S.1.take (n + 1)) j = if j < S.1.length - n then pg S.1 (n + j) else pg S.1 (j - (S.1.length - n)) := fun j hj => by
          split
          · rw [pg_app_l _ _ (by rw [List.length_drop]; assumption), pg_drop]
          · rw [pg_app_r _ _ (by rw [List.length_drop]; omega), List.length_drop, pg_take _ (by omega)]
        show pg (S.1.drop n ++ S.1.take (n + 1)) i ≠ pg (S.1.drop n ++ S.1.take (n + 1)) (i + 1)
        rw [g i (by omega), g (i + 1) hi]
        by_cases c1 : i + 1 < S.1.length - n
        · rw [if_pos (by omega), if_pos c1]; exact w4 (n + i) (by omega)
        · by_cases c2 : i < S.1.length - n
          · rw [if_pos c2, if_neg c1, show n + i = S.1.length - 1 by omega, show i + 1 - (S.1.length - n) = 0 by omega]
            exact w7.symm
          · rw [if_neg c2, if_neg c1, show i + 1 - (S.1.length - n) = i - (S.1.length - n) + 1 by omega]
            exact w4 _ (by omega)
    · split
      · exact w
      · rename_i c
        split
        · exact w
        · have c1 : ¬ (n : Int) = 0 := fun q => c (Or.inl q)
          have c2 : ¬ (n : Int) = S.1.length - 1 := fun q => c (Or.inr q)
          refine wf_set w ((w.1.1.set h3 ⟨?_, ?_, tp, fun i hi => ?_, fun q => by cases q⟩).app (by rw [List.length_set]; omega) ⟨?_, ?_, dp, fun i hi => ?_, fun q => by cases q⟩)
          · show 2 ≤ (S.1.take (n + 1)).length; rw [List.length_take]; omega
          · show (S.1.take (n + 1)).length ≤ 30; rw [List.length_take]; omega
          · replace hi : i + 1 < (S.1.take (n + 1)).length := hi
            rw [List.length_take] at hi
            show pg (S.1.take (n + 1)) i ≠ pg (S.1.take (n + 1)) (i + 1)
            rw [pg_take _ (by omega), pg_take _ (by omega)]
            exact w4 i (by omega)
          · show 2 ≤ (S.1.drop n).length; rw [List.length_drop]; omega
          · show (S.1.drop n).length ≤ 30; rw [List.length_drop]; omega
          · replace hi : i + 1 < (S.1.drop n).length := hi
            rw [List.length_drop] at hi
            show pg (S.1.drop n) i ≠ pg (S.1.drop n) (i + 1)
            rw [pg_drop, pg_drop]
            exact w4 (n + i) (by omega)
theorem kp_rem {W : Wd} (w : wfW W) (s : Int) : wfW (sp_rem W s).2 := by
  unfold sp_rem
  split
  · exact w
  · exact wf_set w (w.1.1.erase _)
theorem kp_top {W : Wd} (w : wfW W) (s : Int) : wfW (sp_top W s).2 := by
  unfold sp_top
  split
  · exact w
  · rename_i h1
    have h3 := in_lt (Decidable.not_not.mp h1)
    refine wf_set w ((w.1.1.erase _).app ?_ (w.1.1.2 _ h3))
    have := w.1.1.1
    rw [List.length_eraseIdx, if_pos h3]
    omega
theorem kp_type {W : Wd} (w : wfW W) (c : Int) : wfW (sp_type W c).2 := by
  obtain ⟨w1, w2, w3, w4⟩ := id w
  unfold sp_type
  split
  · exact w
  · rename_i h1
    have h1 := Decidable.not_not.mp h1
    split
    · exact w
    · refine ⟨w1, w2, ?_, fun i hi => ?_⟩
      · show (W.2.2.1 ++ [c]).length ≤ 80
        rw [List.length_append]; show _ + 1 ≤ 80; omega
      · replace hi : i < (W.2.2.1 ++ [c]).length := hi
        rw [List.length_append] at hi
        replace hi : i < W.2.2.1.length + 1 := hi
        show 33 ≤ pg (W.2.2.1 ++ [c]) i ∧ pg (W.2.2.1 ++ [c]) i ≤ 126
        by_cases e : i < W.2.2.1.length
        · rw [pg_app_l _ _ e]; exact w4 i e
        · rw [pg_app_r _ _ (by omega), show i - W.2.2.1.length = 0 by omega]; exact h1
theorem wfT_nil : wfT [] := ⟨by simp, fun i hi => absurd hi (by simp)⟩
theorem kp_clear {W : Wd} (w : wfW W) : wfW (sp_clear W).2 := ⟨w.1, w.2.1, wfT_nil⟩
theorem frb_no {R : List Stk} : ∀ m i, i + m ≤ R.length → (frb R m i).1 = -6 → ∀ j, i ≤ j → j < i + m → rep (sg R j) = -6 := by
  intro m
  induction m with
  | zero => intro i _ _ j h1 h2; omega
  | succ m ih =>
    intro i hi h j h1 h2
    unfold frb at h
    split at h
    · exact absurd h (by show (i : Int) ≠ -6; omega)
    · rename_i c
      by_cases e : j = i
      · rw [e]; exact Decidable.not_not.mp c
      · exact ih (i + 1) (by omega) h j (by omega) (by omega)
theorem kp_read {W : Wd} (w : wfW W) : wfW (sp_read W).2 := by
  obtain ⟨w1, w2, w3⟩ := id w
  unfold sp_read
  split
  · exact w
  · rename_i h1
    have h1 := Decidable.not_not.mp h1
    obtain ⟨q1, q2, q3⟩ := prsT_ok w3 h1
    split
    · exact w
    · split
      · exact w
      · rename_i h2
        have h2 := Decidable.not_not.mp h2
        have h4 := frb_no (prsT W.2.2.1).length 0 (by omega) h2
        split
        · exact w
        · refine ⟨⟨⟨?_, fun i hi => ?_⟩, w1.2⟩, (wf_mk w w1).2.1, wfT_nil⟩
          · show (W.1.1 ++ prsT W.2.2.1).length ≤ 10
            rw [List.length_append]; omega
          · replace hi : i < (W.1.1 ++ prsT W.2.2.1).length := hi
            rw [List.length_append] at hi
            show wfS (sg (W.1.1 ++ prsT W.2.2.1) i)
            by_cases e : i < W.1.1.length
            · rw [sg_app_l _ _ e]; exact w1.1.2 i e
            · rw [sg_app_r _ _ (by omega)]
              obtain ⟨a1, a2, a3, a4⟩ := q1 (i - W.1.1.length) (by omega)
              obtain ⟨r1, r2⟩ := rep_no.mp (h4 (i - W.1.1.length) (by omega) (by omega))
              exact ⟨a1, a2, a3, fun j hj q => r1 (j + 1) (by omega) hj (by rw [show j + 1 - 1 = j by omega]; exact q.symm), fun q => ⟨a4 q, fun q2 => r2 ⟨q, q2⟩⟩⟩
theorem kp_undo {W : Wd} (w : wfW W) : wfW (sp_undo W).2 := by
  obtain ⟨w1, ⟨w2, w3⟩, w4⟩ := id w
  unfold sp_undo
  split
  · exact w
  · refine ⟨w3 _ (by omega), ⟨?_, fun i hi => ?_⟩, w4⟩
    · show W.2.1.dropLast.length ≤ 6
      rw [List.length_dropLast]; omega
    · replace hi : i < W.2.1.dropLast.length := hi
      rw [List.length_dropLast] at hi
      show wfA (hg W.2.1.dropLast i)
      rw [hg_dl _ (by omega)]
      exact w3 i (by omega)
