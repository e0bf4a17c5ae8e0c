/-! ===== welding: the ends of a drawing's strokes, and one weld ===== -/
def wfD (Ss : List Stk) : Prop := Ss.length ≤ 10 ∧ ∀ i, i < Ss.length → wfS (sg Ss i)
def mid (p q : Int) : Int := 1000 * ((p / 1000 + q / 1000) / 2) + (p % 1000 + q % 1000) / 2
theorem mid_pt {p q : Int} (hp : pt p) (hq : pt q) : pt (mid p q) := by unfold mid; omega
theorem mid_x {p q : Int} (hp : pt p) (hq : pt q) : mid p q / 1000 = (p / 1000 + q / 1000) / 2 := by unfold mid; omega
theorem mid_y {p q : Int} (hp : pt p) (hq : pt q) : mid p q % 1000 = (p % 1000 + q % 1000) / 2 := by unfold mid; omega
def eI (Ss : List Stk) (e : Nat) : Nat := if e % 2 = 0 then 0 else (sg Ss (e / 2)).1.length - 1
def ep (Ss : List Stk) (e : Nat) : Int := pg (sg Ss (e / 2)).1 (eI Ss e)
def eb (Ss : List Stk) (e : Nat) : Int := pg (sg Ss (e / 2)).1 (if e % 2 = 0 then 1 else (sg Ss (e / 2)).1.length - 2)
def ez (Ss : List Stk) (e : Nat) : Nat := (sg Ss (e / 2)).1.length
def eo (Ss : List Stk) (e : Nat) : Prop := e < 2 * Ss.length ∧ (sg Ss (e / 2)).2 = false
def eD (Ss : List Stk) (e f : Nat) : Int := sqd (ep Ss e) (ep Ss f)
def wv (r : Int) (Ss : List Stk) (e f : Nat) : Prop := e < f ∧ eo Ss e ∧ eo Ss f ∧ 0 < eD Ss e f ∧ eD Ss e f ≤ r * r ∧ (e / 2 ≠ f / 2 ∨ 4 ≤ ez Ss e) ∧ mid (ep Ss e) (ep Ss f) ≠ eb Ss e ∧ mid (ep Ss e) (ep Ss f) ≠ eb Ss f
def wk (Ss : List Stk) (e f : Nat) : Int := 400 * eD Ss e f + 20 * e + f
def wb (r : Int) (Ss : List Stk) (e f : Nat) : Prop := wv r Ss e f ∧ ∀ e' f', wv r Ss e' f' → wk Ss e f ≤ wk Ss e' f'
def sete (Ss : List Stk) (e : Nat) (m : Int) : List Stk := Ss.set (e / 2) ((sg Ss (e / 2)).1.set (eI Ss e) m, (sg Ss (e / 2)).2)
def wap (Ss : List Stk) (e f : Nat) : List Stk := sete (sete Ss e (mid (ep Ss e) (ep Ss f))) f (mid (ep Ss e) (ep Ss f))
def wit (r : Int) (k : Nat) (Ss Ss' : List Stk) : Prop := match k with
  | 0 => Ss' = Ss ∧ ¬ ∃ e f, wv r Ss e f
  | k + 1 => ∃ e f, wb r Ss e f ∧ wit r k (wap Ss e f) Ss'
theorem wfD_e {Ss : List Stk} (w : wfD Ss) {e : Nat} (h : eo Ss e) : e < 20 ∧ pt (ep Ss e) ∧ pt (eb Ss e) ∧ 2 ≤ ez Ss e ∧ ez Ss e ≤ 30 ∧ ep Ss e ≠ eb Ss e := by
  have h1 := h.1
  obtain ⟨w1, w2, w3, w4, w5⟩ := w.2 (e / 2) (by omega)
  have := w.1
  refine ⟨by omega, w3 _ (by unfold eI; split <;> omega), w3 _ (by split <;> omega), w1, w2, ?_⟩
  unfold ep eb eI
  by_cases c : e % 2 = 0
  · rw [if_pos c, if_pos c]; exact w4 0 (by omega)
  · rw [if_neg c, if_neg c]
    have := w4 ((sg Ss (e / 2)).1.length - 2) (by omega)
    rw [show (sg Ss (e / 2)).1.length - 2 + 1 = (sg Ss (e / 2)).1.length - 1 by omega] at this
    exact fun q => this q.symm
theorem wb_un {r : Int} {Ss : List Stk} (w : wfD Ss) {e f e' f' : Nat} (h : wb r Ss e f) (h' : wb r Ss e' f') : e = e' ∧ f = f' := by
  have h1 := h.2 e' f' h'.1
  have h2 := h'.2 e f h.1
  have a1 := wfD_e w h.1.2.1
  have a2 := wfD_e w h.1.2.2.1
  have a3 := wfD_e w h'.1.2.1
  have a4 := wfD_e w h'.1.2.2.1
  unfold wk at h1 h2
  omega
/-- a least one of numbers at least 0 -/
theorem least_of {α : Type} (P : α → Prop) (k : α → Int) (hk : ∀ a, P a → 0 ≤ k a) (h : ∃ a, P a) : ∃ a, P a ∧ ∀ b, P b → k a ≤ k b := by
  have key : ∀ (n : Nat) (a : α), P a → (k a).toNat ≤ n → ∃ a, P a ∧ ∀ b, P b → k a ≤ k b := by
    intro n
    induction n with
    | zero =>
      intro a ha hn
      refine ⟨a, ha, fun b hb => ?_⟩
      have := hk b hb
      omega
    | succ n ih =>
      intro a ha hn
      by_cases c : ∃ b, P b ∧ k b < k a
      · obtain ⟨b, hb, hlt⟩ := c
        exact ih b hb (by have := hk b hb; have := hk a ha; omega)
      · refine ⟨a, ha, fun b hb => ?_⟩
        by_cases q : k a ≤ k b
        · exact q
        · exact absurd ⟨b, hb, by omega⟩ c
  obtain ⟨a, ha⟩ := h
  exact key _ a ha (Nat.le_refl _)
theorem wb_ex {r : Int} {Ss : List Stk} (w : wfD Ss) (h : ∃ e f, wv r Ss e f) : ∃ e f, wb r Ss e f := by
  obtain ⟨e, f, h⟩ := h
  obtain ⟨q, h1, h2⟩ := least_of (fun q : Nat × Nat => wv r Ss q.1 q.2) (fun q => wk Ss q.1 q.2) (fun q hq => by
    have h3 := hq.2.2.2.1
    show 0 ≤ 400 * eD Ss q.1 q.2 + 20 * q.1 + q.2
    omega) ⟨(e, f), h⟩
  exact ⟨q.1, q.2, h1, fun e' f' h' => h2 (e', f') h'⟩
theorem sete_len (Ss : List Stk) (e : Nat) (m : Int) : (sete Ss e m).length = Ss.length := List.length_set
theorem sete_sg {Ss : List Stk} {e : Nat} (m : Int) (h : eo Ss e) (i : Nat) : sg (sete Ss e m) i = if i = e / 2 then ((sg Ss (e / 2)).1.set (eI Ss e) m, false) else sg Ss i := by
  unfold sete
  rw [sg_set _ _ _ (by have := h.1; omega), h.2]
theorem sete_2 {Ss : List Stk} {e : Nat} (m : Int) (h : eo Ss e) (i : Nat) : (sg (sete Ss e m) i).2 = (sg Ss i).2 ∧ (sg (sete Ss e m) i).1.length = (sg Ss i).1.length := by
  rw [sete_sg m h]
  split
  · next c => subst c; exact ⟨h.2.symm, List.length_set⟩
  · exact ⟨rfl, rfl⟩
theorem sete_eo {Ss : List Stk} {e : Nat} (m : Int) (h : eo Ss e) (x : Nat) : eo (sete Ss e m) x ↔ eo Ss x := by
  unfold eo
  rw [sete_len, (sete_2 m h _).1]
theorem sete_eI {Ss : List Stk} {e : Nat} (m : Int) (h : eo Ss e) (x : Nat) : eI (sete Ss e m) x = eI Ss x := by
  unfold eI
  rw [(sete_2 m h _).2]
theorem sete_ez {Ss : List Stk} {e : Nat} (m : Int) (h : eo Ss e) (x : Nat) : ez (sete Ss e m) x = ez Ss x := by
  unfold ez
  rw [(sete_2 m h _).2]
theorem sete_pg {Ss : List Stk} (w : wfD Ss) {e : Nat} (m : Int) (h : eo Ss e) (i k : Nat) : pg (sg (sete Ss e m) i).1 k = if i = e / 2 ∧ k = eI Ss e then m else pg (sg Ss i).1 k := by
  rw [sete_sg m h]
  have hw := w.2 (e / 2) (by have := h.1; omega)
  have hI : eI Ss e < (sg Ss (e / 2)).1.length := by have := hw.1; unfold eI; split <;> omega
  by_cases c : i = e / 2
  · rw [if_pos c]
    show pg ((sg Ss (e / 2)).1.set (eI Ss e) m) k = _
    rw [pg_set _ _ _ hI]
    by_cases c2 : k = eI Ss e
    · rw [if_pos c2, if_pos ⟨c, c2⟩]
    · rw [if_neg c2, if_neg (fun q => c2 q.2), c]
  · rw [if_neg c, if_neg (fun q => c q.1)]
theorem sete_ep {Ss : List Stk} (w : wfD Ss) {e : Nat} (m : Int) (h : eo Ss e) {x : Nat} (hx : eo Ss x) : ep (sete Ss e m) x = if x = e then m else ep Ss x := by
  unfold ep
  rw [sete_eI m h, sete_pg w m h]
  have hw := w.2 (e / 2) (by have := h.1; omega)
  by_cases c : x = e
  · rw [if_pos c, c, if_pos ⟨rfl, rfl⟩]
  · rw [if_neg c, if_neg]
    intro q
    obtain ⟨q1, q2⟩ := q
    unfold eI at q2
    rw [q1] at q2
    have := hw.1
    split at q2 <;> split at q2 <;> omega
theorem sete_eb {Ss : List Stk} (w : wfD Ss) {e : Nat} (m : Int) (h : eo Ss e) {x : Nat} (hx : eo Ss x) : eb (sete Ss e m) x = if x / 2 = e / 2 ∧ x ≠ e ∧ ez Ss e = 2 then m else eb Ss x := by
  unfold eb
  rw [(sete_2 m h _).2, sete_pg w m h]
  have hw := w.2 (e / 2) (by have := h.1; omega)
  have h2 := hw.1
  unfold eI ez
  by_cases c : x / 2 = e / 2
  · rw [c]
    by_cases c2 : x = e
    · rw [if_neg (c := e / 2 = e / 2 ∧ x ≠ e ∧ _) (fun q => q.2.1 c2), c2, if_neg]
      intro q
      have q2 := q.2
      split at q2 <;> omega
    · by_cases c3 : (sg Ss (e / 2)).1.length = 2
      · rw [if_pos (c := e / 2 = e / 2 ∧ x ≠ e ∧ _) ⟨rfl, c2, c3⟩, if_pos]
        refine ⟨rfl, ?_⟩
        rw [c3]
        split <;> split <;> omega
      · rw [if_neg (c := e / 2 = e / 2 ∧ x ≠ e ∧ _) (fun q => c3 q.2.2), if_neg]
        intro q
        have q2 := q.2
        split at q2 <;> split at q2 <;> omega
  · simp only [c, false_and, reduceIte]
/-- a new end point that is not the point beside it leaves a good drawing -/
theorem sete_wf {Ss : List Stk} (w : wfD Ss) {e : Nat} {m : Int} (hm : pt m) (h : eo Ss e) (hb : m ≠ eb Ss e) : wfD (sete Ss e m) := by
  refine ⟨by rw [sete_len]; exact w.1, fun i hi => ?_⟩
  rw [sete_len] at hi
  obtain ⟨w1, w2, w3, w4, w5⟩ := w.2 i hi
  obtain ⟨s2, sl⟩ := sete_2 m h i
  refine ⟨by omega, by omega, fun k hk => ?_, fun k hk => ?_, fun hz => ?_⟩
  · rw [sete_pg w m h]
    split
    · exact hm
    · exact w3 k (by omega)
  · rw [sete_pg w m h, sete_pg w m h]
    rw [sl] at hk
    unfold eI
    by_cases c : i = e / 2
    · subst c
      unfold eb at hb
      by_cases p : e % 2 = 0
      · rw [if_pos p] at hb
        rw [if_pos p]
        by_cases c1 : k = 0
        · subst c1
          rw [if_pos ⟨rfl, rfl⟩, if_neg (fun q => by omega)]
          exact hb
        · rw [if_neg (fun q => c1 q.2), if_neg (fun q => by omega)]
          exact w4 k hk
      · rw [if_neg p] at hb
        rw [if_neg p]
        by_cases c1 : k + 1 = (sg Ss (e / 2)).1.length - 1
        · rw [if_neg (fun q => by omega), if_pos ⟨rfl, c1⟩]
          rw [show k = (sg Ss (e / 2)).1.length - 2 by omega]
          exact fun q => hb q.symm
        · rw [if_neg (fun q => by omega), if_neg (fun q => c1 q.2)]
          exact w4 k hk
    · rw [if_neg (fun q => c q.1), if_neg (fun q => c q.1)]
      exact w4 k hk
  · rw [s2] at hz
    have hne : i ≠ e / 2 := fun q => by rw [q, h.2] at hz; cases hz
    rw [sl, sete_pg w m h, sete_pg w m h, if_neg (fun q => hne q.1), if_neg (fun q => hne q.1)]
    exact w5 hz
/-! what a weld leaves -/
theorem wap_ok {r : Int} {Ss : List Stk} (w : wfD Ss) {e f : Nat} (h : wv r Ss e f) : wfD (sete Ss e (mid (ep Ss e) (ep Ss f))) ∧ wfD (wap Ss e f) ∧ eo (sete Ss e (mid (ep Ss e) (ep Ss f))) f := by
  obtain ⟨h1, h2, h3, h4, h5, h6, h7, h8⟩ := h
  have a1 := wfD_e w h2
  have a2 := wfD_e w h3
  have hm := mid_pt a1.2.1 a2.2.1
  have w1 := sete_wf w hm h2 h7
  have o1 := (sete_eo (mid (ep Ss e) (ep Ss f)) h2 f).mpr h3
  refine ⟨w1, sete_wf w1 hm o1 ?_, o1⟩
  rw [sete_eb w _ h2 h3]
  split
  · next c =>
    unfold ez at h6 c
    omega
  · exact h8
def shp (Ss Ts : List Stk) : Prop := Ss.length = Ts.length ∧ ∀ i, i < Ss.length → (sg Ts i).2 = (sg Ss i).2 ∧ (sg Ts i).1.length = (sg Ss i).1.length ∧ ((sg Ss i).2 = true → sg Ts i = sg Ss i) ∧ ∀ k, 0 < k → k + 1 < (sg Ss i).1.length → pg (sg Ts i).1 k = pg (sg Ss i).1 k
theorem shp.rf (Ss : List Stk) : shp Ss Ss := ⟨rfl, fun i _ => ⟨rfl, rfl, fun _ => rfl, fun _ _ _ => rfl⟩⟩
theorem shp.tr {Ss Ts Us : List Stk} (a : shp Ss Ts) (b : shp Ts Us) : shp Ss Us := by
  refine ⟨a.1.trans b.1, fun i hi => ?_⟩
  obtain ⟨a1, a2, a3, a4⟩ := a.2 i hi
  obtain ⟨b1, b2, b3, b4⟩ := b.2 i (by rw [← a.1]; exact hi)
  exact ⟨b1.trans a1, b2.trans a2, fun q => (b3 (a1.trans q)).trans (a3 q), fun k h1 h2 => (b4 k h1 (by omega)).trans (a4 k h1 h2)⟩
theorem sete_shp {Ss : List Stk} (w : wfD Ss) {e : Nat} (m : Int) (h : eo Ss e) : shp Ss (sete Ss e m) := by
  refine ⟨(sete_len _ _ _).symm, fun i hi => ?_⟩
  obtain ⟨s2, sl⟩ := sete_2 m h i
  refine ⟨s2, sl, fun q => ?_, fun k h1 h2 => ?_⟩
  · rw [sete_sg m h, if_neg]
    intro c
    rw [c, h.2] at q
    cases q
  · rw [sete_pg w m h, if_neg]
    intro c
    obtain ⟨c1, c2⟩ := c
    subst c1
    unfold eI at c2
    split at c2 <;> omega
theorem wap_shp {r : Int} {Ss : List Stk} (w : wfD Ss) {e f : Nat} (h : wv r Ss e f) : shp Ss (wap Ss e f) := by
  obtain ⟨w1, w2, o1⟩ := wap_ok w h
  exact (sete_shp w _ h.2.1).tr (sete_shp w1 _ o1)
/-! each weld makes the sum of the squares less -/
def nrm (p : Int) : Int := p / 1000 * (p / 1000) + p % 1000 * (p % 1000)
theorem nrm_bd {p : Int} (h : pt p) : 0 ≤ nrm p ∧ nrm p ≤ 1996002 := by
  have h1 := bd_mul (A := 999) (B := 999) (show -999 ≤ p / 1000 ∧ p / 1000 ≤ 999 by omega) (show -999 ≤ p / 1000 ∧ p / 1000 ≤ 999 by omega)
  have h2 := bd_mul (A := 999) (B := 999) (show -999 ≤ p % 1000 ∧ p % 1000 ≤ 999 by omega) (show -999 ≤ p % 1000 ∧ p % 1000 ≤ 999 by omega)
  have h3 := bd_sq (p / 1000)
  have h4 := bd_sq (p % 1000)
  unfold nrm
  omega
theorem half_sq {a b : Int} (ha : 0 ≤ a) (hb : 0 ≤ b) : 2 * ((a + b) / 2 * ((a + b) / 2)) ≤ a * a + b * b ∧ (a ≠ b → 2 * ((a + b) / 2 * ((a + b) / 2)) < a * a + b * b) := by
  have key : ∀ m x : Int, 0 ≤ m → (m + x) * (m + x) + (m - x) * (m - x) = 2 * (m * m) + 2 * (x * x) := by
    intro m x _
    simp only [Int.add_mul, Int.mul_add, Int.sub_mul, Int.mul_sub]
    have := Int.mul_comm m x
    omega
  have key2 : ∀ m x : Int, (m + x + 1) * (m + x + 1) + (m - x) * (m - x) = 2 * (m * m) + 2 * (x * x) + 2 * m + 2 * x + 1 := by
    intro m x
    simp only [Int.add_mul, Int.mul_add, Int.sub_mul, Int.mul_sub]
    have := Int.mul_comm m x
    omega
  generalize hm : (a + b) / 2 = m
  have hm0 : 0 ≤ m := by omega
  by_cases c : (a + b) % 2 = 0
  · have e1 : a = m + (a - m) := by omega
    have e2 : b = m - (a - m) := by omega
    have := key m (a - m) hm0
    rw [← e1, ← e2] at this
    have h2 := bd_sq (a - m)
    refine ⟨by omega, fun h => ?_⟩
    have := sq_p (a := a - m) (by omega)
    omega
  · have e1 : a = m + (a - m - 1) + 1 := by omega
    have e2 : b = m - (a - m - 1) := by omega
    have := key2 m (a - m - 1)
    rw [← e1, ← e2] at this
    have h3 : 0 ≤ (a - m - 1) * (a - m - 1) + (a - m - 1) := by
      rcases Int.le_total 0 (a - m - 1) with h | h
      · have := Int.mul_nonneg h h; omega
      · by_cases q : a - m - 1 = 0
        · rw [q]; omega
        · have := Int.mul_nonneg_of_nonpos_of_nonpos (a := a - m - 1) (b := a - m - 1 + 1) (by omega) (by omega)
          rw [Int.mul_add, Int.mul_one] at this
          exact this
    omega
theorem mid_nrm {p q : Int} (hp : pt p) (hq : pt q) (h : p ≠ q) : 2 * nrm (mid p q) + 1 ≤ nrm p + nrm q := by
  have h1 := half_sq (a := p / 1000) (b := q / 1000) (by omega) (by omega)
  have h2 := half_sq (a := p % 1000) (b := q % 1000) (by omega) (by omega)
  unfold nrm
  rw [mid_x hp hq, mid_y hp hq]
  by_cases c : p / 1000 = q / 1000
  · have := h2.2 (fun e => h (pt_eq hp hq c e))
    omega
  · have := h1.2 c
    omega
def ms (Ss : List Stk) : Int := sm (fun i => if (sg Ss i).2 = true then 0 else nrm (ep Ss (2 * i)) + nrm (ep Ss (2 * i + 1))) Ss.length
theorem sm_upd (f g : Nat → Int) (j : Nat) (h : ∀ i, i ≠ j → f i = g i) : ∀ n, sm g n = sm f n + (if j < n then g j - f j else 0) := by
  intro n
  induction n with
  | zero => rw [if_neg (by omega)]; rfl
  | succ n ih =>
    show sm g n + g n = sm f n + f n + _
    rw [ih]
    by_cases c : j < n
    · rw [if_pos c, if_pos (by omega), h n (by omega)]; omega
    · rw [if_neg c]
      by_cases c2 : j = n
      · rw [if_pos (by omega), c2]; omega
      · rw [if_neg (by omega), h n (by omega)]; omega
theorem ms_sete {Ss : List Stk} (w : wfD Ss) {e : Nat} (m : Int) (h : eo Ss e) : ms (sete Ss e m) = ms Ss + nrm m - nrm (ep Ss e) := by
  have h1 := h.1
  unfold ms
  rw [sete_len]
  have ho : ∀ i, i < Ss.length → (sg Ss i).2 = false → eo Ss (2 * i) ∧ eo Ss (2 * i + 1) := fun i hi hz => ⟨⟨by omega, by rw [show 2 * i / 2 = i by omega]; exact hz⟩, ⟨by omega, by rw [show (2 * i + 1) / 2 = i by omega]; exact hz⟩⟩
  have e1 := sm_upd (fun i => if i < Ss.length then (if (sg Ss i).2 = true then 0 else nrm (ep Ss (2 * i)) + nrm (ep Ss (2 * i + 1))) else 0) (fun i => if i < Ss.length then (if (sg (sete Ss e m) i).2 = true then 0 else nrm (ep (sete Ss e m) (2 * i)) + nrm (ep (sete Ss e m) (2 * i + 1))) else 0) (e / 2) (fun i hi => by
    by_cases c : i < Ss.length
    · rw [if_pos c, if_pos c, (sete_2 m h i).1]
      by_cases z : (sg Ss i).2 = true
      · rw [if_pos z, if_pos z]
      · have o := ho i c (by simpa using z)
        rw [if_neg z, if_neg z, sete_ep w m h o.1, sete_ep w m h o.2, if_neg (by omega), if_neg (by omega)]
    · rw [if_neg c, if_neg c]) Ss.length
  rw [if_pos (by omega)] at e1
  rw [if_pos (show e / 2 < Ss.length by omega), if_pos (show e / 2 < Ss.length by omega), (sete_2 m h (e / 2)).1, h.2] at e1
  have o := ho (e / 2) (by omega) h.2
  rw [if_neg (by decide), if_neg (by decide), sete_ep w m h o.1, sete_ep w m h o.2] at e1
  have r1 : sm (fun i => if i < Ss.length then (if (sg (sete Ss e m) i).2 = true then 0 else nrm (ep (sete Ss e m) (2 * i)) + nrm (ep (sete Ss e m) (2 * i + 1))) else 0) Ss.length = sm (fun i => if (sg (sete Ss e m) i).2 = true then 0 else nrm (ep (sete Ss e m) (2 * i)) + nrm (ep (sete Ss e m) (2 * i + 1))) Ss.length := sm_cg _ (fun i hi => if_pos hi)
  have r2 : sm (fun i => if i < Ss.length then (if (sg Ss i).2 = true then 0 else nrm (ep Ss (2 * i)) + nrm (ep Ss (2 * i + 1))) else 0) Ss.length = sm (fun i => if (sg Ss i).2 = true then 0 else nrm (ep Ss (2 * i)) + nrm (ep Ss (2 * i + 1))) Ss.length := sm_cg _ (fun i hi => if_pos hi)
  rw [r1, r2] at e1
  rw [e1]
  by_cases c : e % 2 = 0
  · rw [if_pos (by omega), if_neg (by omega), show 2 * (e / 2) = e by omega]; omega
  · rw [if_neg (by omega), if_pos (by omega), show 2 * (e / 2) + 1 = e by omega]; omega
theorem ms_wap {r : Int} {Ss : List Stk} (w : wfD Ss) {e f : Nat} (h : wv r Ss e f) : ms (wap Ss e f) + 1 ≤ ms Ss := by
  obtain ⟨w1, w2, o1⟩ := wap_ok w h
  obtain ⟨h1, h2, h3, h4, h5, h6, h7, h8⟩ := h
  have a1 := wfD_e w h2
  have a2 := wfD_e w h3
  have hne : ep Ss e ≠ ep Ss f := fun q => by
    have := (sqd_0 a1.2.1 a2.2.1).mpr q
    unfold eD at h4
    omega
  have h9 := mid_nrm a1.2.1 a2.2.1 hne
  unfold wap
  rw [ms_sete w1 _ o1, ms_sete w _ h2, sete_ep w _ h2 h3, if_neg (by omega)]
  omega
theorem ms_bd {Ss : List Stk} (w : wfD Ss) : 0 ≤ ms Ss ∧ ms Ss ≤ 39920040 := by
  have key : ∀ n, n ≤ Ss.length → 0 ≤ sm (fun i => if (sg Ss i).2 = true then 0 else nrm (ep Ss (2 * i)) + nrm (ep Ss (2 * i + 1))) n ∧ sm (fun i => if (sg Ss i).2 = true then 0 else nrm (ep Ss (2 * i)) + nrm (ep Ss (2 * i + 1))) n ≤ 3992004 * n := by
    intro n
    induction n with
    | zero => intro _; exact ⟨Int.le_refl _, Int.le_refl _⟩
    | succ n ih =>
      intro hn
      have h1 := ih (by omega)
      have h2 : 0 ≤ (if (sg Ss n).2 = true then 0 else nrm (ep Ss (2 * n)) + nrm (ep Ss (2 * n + 1))) ∧ (if (sg Ss n).2 = true then 0 else nrm (ep Ss (2 * n)) + nrm (ep Ss (2 * n + 1))) ≤ 3992004 := by
        split
        · omega
        · next z =>
          have z' : (sg Ss n).2 = false := by simpa using z
          have a1 := wfD_e w (e := 2 * n) ⟨by omega, by rw [show 2 * n / 2 = n by omega]; exact z'⟩
          have a2 := wfD_e w (e := 2 * n + 1) ⟨by omega, by rw [show (2 * n + 1) / 2 = n by omega]; exact z'⟩
          have b1 := nrm_bd a1.2.1
          have b2 := nrm_bd a2.2.1
          omega
      show 0 ≤ sm _ n + (if (sg Ss n).2 = true then 0 else nrm (ep Ss (2 * n)) + nrm (ep Ss (2 * n + 1))) ∧ sm _ n + (if (sg Ss n).2 = true then 0 else nrm (ep Ss (2 * n)) + nrm (ep Ss (2 * n + 1))) ≤ 3992004 * ((n + 1 : Nat) : Int)
      omega
  have := key Ss.length (Nat.le_refl _)
  have := w.1
  unfold ms
  omega
theorem wit_un {r : Int} : ∀ (k k' : Nat) (Ss S1 S2 : List Stk), wfD Ss → wit r k Ss S1 → wit r k' Ss S2 → k = k' ∧ S1 = S2 := by
  intro k
  induction k with
  | zero =>
    intro k' Ss S1 S2 w h1 h2
    cases k' with
    | zero => exact ⟨rfl, h1.1.trans h2.1.symm⟩
    | succ k' =>
      obtain ⟨e, f, h3, _⟩ := h2
      exact absurd ⟨e, f, h3.1⟩ h1.2
  | succ k ih =>
    intro k' Ss S1 S2 w h1 h2
    obtain ⟨e, f, h3, h4⟩ := h1
    cases k' with
    | zero => exact absurd ⟨e, f, h3.1⟩ h2.2
    | succ k' =>
      obtain ⟨e', f', h5, h6⟩ := h2
      obtain ⟨rfl, rfl⟩ := wb_un w h3 h5
      obtain ⟨e1, e2⟩ := ih k' _ S1 S2 (wap_ok w h3.1).2.1 h4 h6
      exact ⟨by omega, e2⟩
theorem wit_ex {r : Int} : ∀ (n : Nat) (Ss : List Stk), wfD Ss → (ms Ss).toNat ≤ n → ∃ k S', wit r k Ss S' := by
  intro n
  induction n with
  | zero =>
    intro Ss w hn
    refine ⟨0, Ss, rfl, fun q => ?_⟩
    obtain ⟨e, f, h⟩ := q
    have := ms_wap w h
    have := ms_bd (wap_ok w h).2.1
    omega
  | succ n ih =>
    intro Ss w hn
    by_cases c : ∃ e f, wv r Ss e f
    · obtain ⟨e, f, h⟩ := wb_ex w c
      have := ms_wap w h.1
      have := ms_bd (wap_ok w h.1).2.1
      obtain ⟨k, S', h2⟩ := ih (wap Ss e f) (wap_ok w h.1).2.1 (by omega)
      exact ⟨k + 1, S', e, f, h, h2⟩
    · exact ⟨0, Ss, rfl, c⟩
theorem wit_ok {r : Int} : ∀ (k : Nat) (Ss S' : List Stk), wfD Ss → wit r k Ss S' → wfD S' ∧ shp Ss S' ∧ (k : Int) + ms S' ≤ ms Ss := by
  intro k
  induction k with
  | zero =>
    intro Ss S' w h
    rw [h.1]
    exact ⟨w, shp.rf _, by omega⟩
  | succ k ih =>
    intro Ss S' w h
    obtain ⟨e, f, h3, h4⟩ := h
    obtain ⟨a1, a2, a3⟩ := ih _ S' (wap_ok w h3.1).2.1 h4
    have := ms_wap w h3.1
    exact ⟨a1, (wap_shp w h3.1).tr a2, by omega⟩
noncomputable def weldF (r : Int) (Ss : List Stk) : Nat × List Stk := Classical.epsilon (fun q => wit r q.1 Ss q.2)
theorem weldF_ok {r : Int} {Ss : List Stk} (w : wfD Ss) : wit r (weldF r Ss).1 Ss (weldF r Ss).2 := by
  obtain ⟨k, S', h⟩ := wit_ex (r := r) _ Ss w (Nat.le_refl _)
  exact Classical.epsilon_spec (p := fun q : Nat × List Stk => wit r q.1 Ss q.2) ⟨(k, S'), h⟩
theorem weldF_un {r : Int} {Ss S' : List Stk} {k : Nat} (w : wfD Ss) (h : wit r k Ss S') : weldF r Ss = (k, S') := by
  obtain ⟨e1, e2⟩ := wit_un _ _ _ _ _ w (weldF_ok w) h
  exact Prod.ext e1 e2
