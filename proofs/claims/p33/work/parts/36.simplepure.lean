/-! ===== pure: the points that stay, as bits ===== -/
theorem lv_le (S : Stk) : ∀ (n a b : Nat) (c : Int) (k : Nat), lv S n a b c k ≤ c := by
  intro n
  induction n with
  | zero => intro a b c k; unfold lv; omega
  | succ n ih =>
    intro a b c k
    unfold lv
    split
    · omega
    · split
      · omega
      · split
        · have := ih a (frS S a b) (min c (owS S a b)) k; omega
        · have := ih (frS S a b) b (min c (owS S a b)) k; omega
/-- a place that stays: a bit, or the first point once more, behind the last one -/
def isS (m n b : Nat) : Prop := b = n ∨ m.testBit b = true
/-- two that stay, and none between them -/
def gap (m n a b : Nat) : Prop := a < b ∧ m.testBit a = true ∧ isS m n b ∧ ∀ k, a < k → k < b → ¬ m.testBit k = true
/-- what holds of the bits on the way -/
def sinv (S : Stk) (t : Int) (m : Nat) : Prop := m.testBit 0 = true ∧ isS m S.1.length (pcs S) ∧ (∀ k, m.testBit k = true → k < S.1.length ∧ t ≤ levS S k) ∧ ∀ a b, gap m S.1.length a b → b ≤ pcs S → ∃ (c : Int) (g : Nat), t ≤ c ∧ b - a ≤ g ∧ ∀ k, a < k → k < b → levS S k = lv S g a b c k
/-- nothing is added to the gaps up to a place -/
def sfix (S : Stk) (t : Int) (m e : Nat) : Prop := ∀ a b, gap m S.1.length a b → b ≤ e → b ≤ a + 1 ∨ owS S a b < t
theorem sinv.lt {S : Stk} {t : Int} {m : Nat} (w : wfS S) (h : sinv S t m) : m < 1073741824 := by
  have : m < 2 ^ 30 := Nat.lt_pow_two_of_testBit m (fun i hi => by
    cases hb : m.testBit i with
    | false => rfl
    | true =>
      have := (h.2.2.1 i hb).1
      have := w.2.1
      omega)
  exact this
theorem tbo {m f k : Nat} : (m ||| 2 ^ f).testBit k = true ↔ m.testBit k = true ∨ k = f := by
  rw [Nat.testBit_or, Bool.or_eq_true, Nat.testBit_two_pow, decide_eq_true_eq]
  exact ⟨fun q => q.elim Or.inl (fun q => Or.inr q.symm), fun q => q.elim Or.inl (fun q => Or.inr q.symm)⟩
/-- the farthest point of a gap is added -/
theorem sinv.add {S : Stk} {t : Int} {m a b : Nat} (h : sinv S t m) (hg : gap m S.1.length a b) (hb : b ≤ pcs S) (hab : a + 1 < b) (ho : t ≤ owS S a b) : sinv S t (m ||| 2 ^ frS S a b) := by
  have hpc : pcs S ≤ S.1.length := pcs_le
  have hf := frS_rng S hab
  obtain ⟨h0, hE, h1, h2⟩ := h
  obtain ⟨c, g, c1, c2, c3⟩ := h2 a b hg hb
  obtain ⟨g1, g2, g3, g4⟩ := hg
  have up : ∀ k, isS m S.1.length k → isS (m ||| 2 ^ frS S a b) S.1.length k := fun k q => q.elim Or.inl (fun q => Or.inr (tbo.mpr (Or.inl q)))
  obtain ⟨g', rfl⟩ : ∃ g', g = g' + 1 := ⟨g - 1, by omega⟩
  have e : ∀ k, a < k → k < b → levS S k = if k = frS S a b then min c (owS S a b) else if k < frS S a b then lv S g' a (frS S a b) (min c (owS S a b)) k else lv S g' (frS S a b) b (min c (owS S a b)) k := by
    intro k k1 k2
    rw [c3 k k1 k2]
    show (if b ≤ a + 1 then _ else _) = _
    rw [if_neg (by omega)]
  refine ⟨tbo.mpr (Or.inl h0), up _ hE, fun k hk => ?_, fun a' b' q hb' => ?_⟩
  · rcases tbo.mp hk with q | q
    · exact h1 k q
    · rw [q]
      refine ⟨by omega, ?_⟩
      rw [e _ hf.1 hf.2, if_pos rfl]
      omega
  · obtain ⟨q1, q2, q3, q4⟩ := q
    have no : ∀ k, a' < k → k < b' → ¬ m.testBit k = true := fun k k1 k2 q => q4 k k1 k2 (tbo.mpr (Or.inl q))
    have nf : ¬ (a' < frS S a b ∧ frS S a b < b') := fun q => q4 _ q.1 q.2 (tbo.mpr (Or.inr rfl))
    rcases tbo.mp q2 with qa | qa
    · have qb : isS m S.1.length b' ∨ b' = frS S a b := by
        rcases q3 with q3 | q3
        · exact Or.inl (Or.inl q3)
        · exact (tbo.mp q3).elim (fun q => Or.inl (Or.inr q)) Or.inr
      rcases qb with qb | qb
      · exact h2 a' b' ⟨q1, qa, qb, no⟩ hb'
      · have ea : a' = a := by
          rcases Nat.lt_trichotomy a' a with x | x | x
          · exact absurd g2 (no a x (by omega))
          · exact x
          · exact absurd qa (g4 a' x (by omega))
        subst ea
        subst qb
        refine ⟨min c (owS S a' b), g', by omega, by omega, fun k k1 k2 => ?_⟩
        rw [e k k1 (by omega), if_neg (by omega), if_pos k2]
    · subst qa
      have eb : b' = b := by
        rcases Nat.lt_trichotomy b' b with x | x | x
        · rcases q3 with q3 | q3
          · omega
          · rcases tbo.mp q3 with q | q
            · exact absurd q (g4 b' (by omega) x)
            · omega
        · exact x
        · rcases g3 with g3 | g3
          · omega
          · exact absurd g3 (no b (by omega) x)
      subst eb
      refine ⟨min c (owS S a b'), g', by omega, by omega, fun k k1 k2 => ?_⟩
      rw [e k (by omega) k2, if_neg (by omega), if_neg (by omega)]
theorem last_set (m : Nat) (h0 : m.testBit 0 = true) : ∀ k : Nat, ∃ a, a ≤ k ∧ m.testBit a = true ∧ ∀ j, a < j → j ≤ k → ¬ m.testBit j = true := by
  intro k
  induction k with
  | zero => exact ⟨0, Nat.le_refl _, h0, fun j h1 h2 => by omega⟩
  | succ k ih =>
    by_cases c : m.testBit (k + 1) = true
    · exact ⟨k + 1, Nat.le_refl _, c, fun j h1 h2 => by omega⟩
    · obtain ⟨a, a1, a2, a3⟩ := ih
      refine ⟨a, by omega, a2, fun j h1 h2 => ?_⟩
      by_cases e : j = k + 1
      · rw [e]; exact c
      · exact a3 j h1 (by omega)
theorem next_set (m n e : Nat) (he : isS m n e) : ∀ d k : Nat, k + d = e → ∃ b, k ≤ b ∧ b ≤ e ∧ isS m n b ∧ ∀ j, k ≤ j → j < b → ¬ m.testBit j = true := by
  intro d
  induction d with
  | zero => intro k hk; exact ⟨k, Nat.le_refl _, by omega, by rw [show k = e by omega]; exact he, fun j h1 h2 => by omega⟩
  | succ d ih =>
    intro k hk
    by_cases c : m.testBit k = true
    · exact ⟨k, Nat.le_refl _, by omega, Or.inr c, fun j h1 h2 => by omega⟩
    · obtain ⟨b, b1, b2, b3, b4⟩ := ih (k + 1) (by omega)
      refine ⟨b, by omega, b2, b3, fun j h1 h2 => ?_⟩
      by_cases e : j = k
      · rw [e]; exact c
      · exact b4 j (by omega) h2
/-- nothing is added any more: the bits are the points that stay -/
theorem sinv.fin {S : Stk} {t : Int} {m : Nat} (h : sinv S t m) (hf : sfix S t m (pcs S)) : ∀ k, k < S.1.length → (m.testBit k = true ↔ t ≤ levS S k) := by
  intro k hk
  refine ⟨fun q => (h.2.2.1 k q).2, fun q => ?_⟩
  by_cases c : m.testBit k = true
  · exact c
  · exfalso
    obtain ⟨a, a1, a2, a3⟩ := last_set m h.1 k
    have hkE : k < pcs S := by
      rcases h.2.1 with x | x
      · omega
      · have hn : pcs S = S.1.length ∨ pcs S = S.1.length - 1 := by unfold pcs; split <;> simp
        rcases hn with hn | hn
        · omega
        · by_cases e : k = pcs S
          · rw [e] at c; exact absurd x c
          · omega
    obtain ⟨b, b1, b2, b3, b4⟩ := next_set m S.1.length (pcs S) h.2.1 (pcs S - k) k (by omega)
    have hak : a ≠ k := fun e => c (by rw [← e]; exact a2)
    have hbk : b ≠ k := by
      intro e
      rcases b3 with x | x
      · omega
      · rw [e] at x; exact c x
    have hg : gap m S.1.length a b := ⟨by omega, a2, b3, fun j h1 h2 => by
      by_cases e : j ≤ k
      · exact a3 j h1 e
      · exact b4 j (by omega) h2⟩
    obtain ⟨x, g, c1, c2, c3⟩ := h.2.2.2 a b hg b2
    rcases hf a b hg b2 with y | y
    · omega
    · rw [c3 k (by omega) (by omega)] at q
      obtain ⟨g', rfl⟩ : ∃ g', g = g' + 1 := ⟨g - 1, by omega⟩
      have q2 : lv S (g' + 1) a b x k = if k = frS S a b then min x (owS S a b) else if k < frS S a b then lv S g' a (frS S a b) (min x (owS S a b)) k else lv S g' (frS S a b) b (min x (owS S a b)) k := by
        show (if b ≤ a + 1 then _ else _) = _
        rw [if_neg (by omega)]
      rw [q2] at q
      have l1 := lv_le S g' a (frS S a b) (min x (owS S a b)) k
      have l2 := lv_le S g' (frS S a b) b (min x (owS S a b)) k
      split at q
      · omega
      · split at q <;> omega
theorem tb1 {k : Nat} : (1 : Nat).testBit k = true ↔ k = 0 := by
  have : (1 : Nat) = 2 ^ 0 := rfl
  rw [this, Nat.testBit_two_pow, decide_eq_true_eq]
  exact ⟨fun q => q.symm, fun q => q.symm⟩
/-- the bits at the start -/
theorem sinv_op {S : Stk} {t : Int} (w : wfS S) (ht : t ≤ 200) (z : ¬ S.2 = true) : sinv S t (1 ||| 2 ^ (S.1.length - 1)) := by
  have w1 := w.1
  have w2 := w.2.1
  have hp : pcs S = S.1.length - 1 := if_neg z
  have l0 : levS S 0 = 200 := if_pos (Or.inl rfl)
  have lE : levS S (pcs S) = 200 := if_pos (Or.inr rfl)
  have bit : ∀ k, (1 ||| 2 ^ (S.1.length - 1)).testBit k = true ↔ k = 0 ∨ k = S.1.length - 1 := fun k => tbo.trans (or_congr tb1 Iff.rfl)
  refine ⟨(bit 0).mpr (Or.inl rfl), Or.inr ((bit _).mpr (Or.inr hp)), fun k hk => ?_, fun a b q hb => ?_⟩
  · rcases (bit k).mp hk with x | x
    · rw [x, l0]; omega
    · rw [x, ← hp, lE]; omega
  · obtain ⟨q1, q2, q3, q4⟩ := q
    have ea : a = 0 := by
      rcases (bit a).mp q2 with x | x
      · exact x
      · omega
    have eb : b = pcs S := by
      rcases q3 with x | x
      · omega
      · rcases (bit b).mp x with x | x <;> omega
    subst ea
    subst eb
    refine ⟨200, 31, ht, by omega, fun k k1 k2 => ?_⟩
    unfold levS
    rw [if_neg (by omega), if_neg z]
theorem sinv_cl {S : Stk} {t : Int} (w : wfS S) (ht : t ≤ 200) (z : S.2 = true) : sinv S t (1 ||| 2 ^ ffS S) := by
  have w1 := w.1
  have w2 := w.2.1
  have hf := ffS_rng w
  have hp : pcs S = S.1.length := if_pos z
  have l0 : levS S 0 = 200 := if_pos (Or.inl rfl)
  have lF : levS S (ffS S) = 200 := by
    unfold levS
    rw [if_neg (by omega), if_pos z, if_pos rfl]
  have bit : ∀ k, (1 ||| 2 ^ ffS S).testBit k = true ↔ k = 0 ∨ k = ffS S := fun k => tbo.trans (or_congr tb1 Iff.rfl)
  refine ⟨(bit 0).mpr (Or.inl rfl), Or.inl hp, fun k hk => ?_, fun a b q hb => ?_⟩
  · rcases (bit k).mp hk with x | x
    · rw [x, l0]; omega
    · rw [x, lF]; omega
  · obtain ⟨q1, q2, q3, q4⟩ := q
    rcases (bit a).mp q2 with x | x
    · have eb : b = ffS S := by
        rcases q3 with y | y
        · have := q4 (ffS S) (by omega) (by omega)
          exact absurd ((bit _).mpr (Or.inr rfl)) this
        · rcases (bit b).mp y with y | y <;> omega
      subst x
      subst eb
      refine ⟨200, 31, ht, by omega, fun k k1 k2 => ?_⟩
      unfold levS
      rw [if_neg (by omega), if_pos z, if_neg (by omega), if_pos k2]
    · have eb : b = pcs S := by
        rcases q3 with y | y
        · omega
        · rcases (bit b).mp y with y | y <;> omega
      subst x
      subst eb
      refine ⟨200, 31, ht, by omega, fun k k1 k2 => ?_⟩
      unfold levS
      rw [if_neg (by omega), if_pos z, if_neg (by omega), if_neg (by omega)]
/-! how many bits, and which points -/
theorem pcn_sm : ∀ n m : Nat, pcn n m = sm (fun k => tb m k) n := by
  intro n
  induction n with
  | zero => intro m; rfl
  | succ n ih =>
    intro m
    rw [sm_front]
    unfold pcn
    rw [ih (m / 2)]
    have e1 : ((m % 2 : Nat) : Int) = tb m 0 := by
      unfold tb
      rw [Nat.testBit_zero]
      by_cases c : m % 2 = 1
      · rw [if_pos (by simpa using c)]; omega
      · rw [if_neg (by simpa using c)]; omega
    rw [e1]
    congr 1
    refine sm_cg n (fun k _ => ?_)
    unfold tb
    rw [Nat.testBit_succ]
theorem pick_sm (f : Nat → Bool) (l : List Int) : ∀ n : Nat, ((pick f l n).length : Int) = sm (fun k => c01 (f k)) n := by
  intro n
  induction n with
  | zero => rfl
  | succ n ih =>
    unfold pick
    rw [List.length_append, sm_s, ← ih]
    unfold c01
    by_cases c : f n = true
    · rw [if_pos c, if_pos c, List.length_cons, List.length_nil]; omega
    · rw [if_neg c, if_neg c, List.length_nil]; omega
theorem sm_more (f : Nat → Int) (n : Nat) : ∀ d : Nat, (∀ k, n ≤ k → f k = 0) → sm f (n + d) = sm f n := by
  intro d h
  induction d with
  | zero => rfl
  | succ d ih =>
    show sm f (n + d + 1) = _
    rw [sm_s, ih, h (n + d) (by omega)]; omega
theorem pcn_pick {m n : Nat} (l : List Int) (hn : n ≤ 31) (h : ∀ k, m.testBit k = true → k < n) : pcn 31 m = ((pick (fun k => m.testBit k) l n).length : Int) := by
  rw [pcn_sm, pick_sm]
  have e := sm_more (fun k => tb m k) n (31 - n) (fun k hk => if_neg (fun q => by have := h k q; omega))
  rw [show n + (31 - n) = 31 by omega] at e
  exact e
theorem pick_cg (l : List Int) (f g : Nat → Bool) : ∀ n : Nat, (∀ k, k < n → f k = g k) → pick f l n = pick g l n := by
  intro n
  induction n with
  | zero => intro _; rfl
  | succ n ih =>
    intro h
    unfold pick
    rw [ih (fun k hk => h k (by omega)), h n (by omega)]
theorem pick_all (l : List Int) : ∀ n : Nat, n ≤ l.length → pick (fun _ => true) l n = l.take n := by
  intro n
  induction n with
  | zero => intro _; rw [List.take_zero]; rfl
  | succ n ih =>
    intro h
    unfold pick
    rw [ih (by omega), if_pos rfl, List.take_add_one, List.getElem?_eq_getElem (by omega)]
    unfold pg
    rw [List.getD_eq_getElem?_getD, List.getElem?_eq_getElem (by omega)]
    rfl
/-- what the law's set says of a simplified stroke -/
def sgood (S : Stk) (t : Int) (r : Nat) : Prop := r < 2147483648 ∧ pcn 31 r = ((smpS S t).1.length : Int) ∧ (smpS S t).1 = pick (fun k => r.testBit k) S.1 S.1.length ∧ ∀ k, r.testBit k = true → k < S.1.length
theorem full_bit (n k : Nat) : (2 ^ n - 1).testBit k = true ↔ k < n := by
  rw [Nat.testBit_two_pow_sub_one, decide_eq_true_eq]
theorem sgood_full {S : Stk} {t : Int} (w : wfS S) (h : smpS S t = S) : sgood S t (2 ^ S.1.length - 1) := by
  have w2 := w.2.1
  have hb : ∀ k, (2 ^ S.1.length - 1).testBit k = true → k < S.1.length := fun k q => (full_bit _ _).mp q
  have hp : pick (fun k => (2 ^ S.1.length - 1).testBit k) S.1 S.1.length = S.1 := by
    rw [pick_cg S.1 _ (fun _ => true) S.1.length (fun k hk => (full_bit _ _).mpr hk), pick_all S.1 _ (Nat.le_refl _), List.take_length]
  have hlt : 2 ^ S.1.length - 1 < 2147483648 := by
    have : 2 ^ S.1.length ≤ 2 ^ 30 := Nat.pow_le_pow_right (by omega) w2
    have e : (2 : Nat) ^ 30 = 1073741824 := rfl
    omega
  refine ⟨hlt, ?_, ?_, hb⟩
  · rw [pcn_pick S.1 (by omega) hb, hp, h]
  · rw [hp, h]
theorem sgood_set {S : Stk} {t : Int} {m : Nat} (w : wfS S) (hm : m < 1073741824) (hb : ∀ k, k < S.1.length → (m.testBit k = true ↔ t ≤ levS S k)) (hb2 : ∀ k, m.testBit k = true → k < S.1.length) (h : smpS S t = (picS S t, S.2)) : sgood S t m := by
  have w2 := w.2.1
  have hp : pick (fun k => m.testBit k) S.1 S.1.length = picS S t := by
    unfold picS
    refine pick_cg _ _ _ _ (fun k hk => ?_)
    rw [Bool.eq_iff_iff, hb k hk, decide_eq_true_eq]
  refine ⟨by omega, ?_, ?_, hb2⟩
  · rw [pcn_pick S.1 (by omega) hb2, hp, h]
  · rw [hp, h]
