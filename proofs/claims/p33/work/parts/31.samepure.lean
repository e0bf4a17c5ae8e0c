/-! ===== pure: the law's measures against the class's ===== -/
theorem sm_s (f : Nat → Int) (n : Nat) : sm f (n + 1) = sm f n + f n := rfl
theorem sm_z (f : Nat → Int) : sm f 0 = 0 := rfl
theorem sm_add (f g : Nat → Int) (n : Nat) : sm (fun i => f i + g i) n = sm f n + sm g n := by
  induction n with
  | zero => rfl
  | succ n ih => rw [sm_s, sm_s, sm_s, ih]; omega
theorem sm_swap (g : Nat → Nat → Int) (n : Nat) : ∀ m : Nat, sm (fun i => sm (fun j => g i j) n) m = sm (fun j => sm (fun i => g i j) m) n := by
  intro m
  induction m with
  | zero => exact (sm_0 _ n (fun i _ => rfl)).symm
  | succ m ih =>
    rw [sm_s, ih, ← sm_add]
    exact sm_cg n (fun i _ => rfl)
theorem sm_cut (g : Nat → Int) (j : Nat) : ∀ K : Nat, j ≤ K → sm (fun i => if i < j then g i else 0) K = sm g j := by
  intro K
  induction K with
  | zero => intro h; rw [show j = 0 by omega]; rfl
  | succ K ih =>
    intro h
    by_cases c : j = K + 1
    · rw [c]
      exact sm_cg _ (fun i hi => if_pos hi)
    · rw [sm_s, ih (by omega), if_neg (by omega)]; omega
theorem sm_front (f : Nat → Int) : ∀ n : Nat, sm f (n + 1) = f 0 + sm (fun k => f (k + 1)) n := by
  intro n
  induction n with
  | zero => rw [sm_s, sm_z, sm_z]; omega
  | succ n ih => rw [sm_s, ih, sm_s]; omega
def c01 (b : Bool) : Int := if b = true then 1 else 0
def sfS (l : List Int) (K : Nat) : Int := sm (fun k => sm (fun i => c01 (pcr (pg l i) (pr l (i + 1)) (pg l k) (pr l (k + 1)))) k) K
theorem sfS_ok (S : Stk) : sfS S.1 (pcs S) = cseS S := by
  unfold cseS cpf
  rw [sm_swap]
  refine sm_cg _ (fun j hj => ?_)
  rw [← sm_cut _ j (pcs S) (by omega)]
  refine sm_cg _ (fun i hi => ?_)
  unfold c01
  by_cases c : i < j
  · rw [if_pos c]
    by_cases e : pcr (pg S.1 i) (pr S.1 (i + 1)) (pg S.1 j) (pr S.1 (j + 1)) = true
    · rw [if_pos e, if_pos ⟨c, e⟩]
    · rw [if_neg e, if_neg (fun q => e q.2)]
  · rw [if_neg c, if_neg (fun q => c q.1)]
theorem pcr_sym (a b c e : Int) : pcr a b c e = pcr c e a b := by
  unfold pcr
  rw [Bool.and_comm]
def cyS (A B : Stk) (K : Nat) : Int := sm (fun k => sm (fun i => c01 (pcr (pg A.1 k) (pr A.1 (k + 1)) (pg B.1 i) (pr B.1 (i + 1)))) (pcs B)) K
theorem cyS_1 (A B : Stk) : cx2 A B = cyS A B (pcs A) := by
  unfold cx2 cyS cpf
  refine sm_cg _ (fun i _ => sm_cg _ (fun j _ => ?_))
  unfold c01
  by_cases e : pcr (pg A.1 i) (pr A.1 (i + 1)) (pg B.1 j) (pr B.1 (j + 1)) = true
  · rw [if_pos e, if_pos ⟨Nat.zero_le _, e⟩]
  · rw [if_neg e, if_neg (fun q => e q.2)]
theorem cyS_2 (A B : Stk) : cx2 B A = cyS A B (pcs A) := by
  rw [cyS_1]
  unfold cyS
  rw [sm_swap]
  exact sm_cg _ (fun i _ => sm_cg _ (fun j _ => by rw [pcr_sym]))
theorem crs_anti (a b p : Int) : crs b a p = -crs a b p := by
  unfold crs
  generalize a / 1000 = ax
  generalize a % 1000 = ay
  generalize b / 1000 = bx
  generalize b % 1000 = bz
  generalize p / 1000 = px
  generalize p % 1000 = py
  grind
theorem sqd_comm (p q : Int) : sqd p q = sqd q p := by
  unfold sqd
  generalize p / 1000 = ax
  generalize p % 1000 = ay
  generalize q / 1000 = bx
  generalize q % 1000 = bz
  grind
def rayL (p q x y : Int) : Prop := (p % 1000 ≤ y ∧ y < q % 1000 ∧ 0 < crs p q (1000 * x + y)) ∨ (q % 1000 ≤ y ∧ y < p % 1000 ∧ crs p q (1000 * x + y) < 0)
theorem rayL_ok (p q x y : Int) : ray p q x y = true ↔ rayL p q x y := by
  unfold rayL
  by_cases h1 : p % 1000 ≤ y
  · by_cases h2 : q % 1000 ≤ y
    · rw [ray_n ⟨fun _ => h2, fun _ => h1⟩]
      exact ⟨fun q => absurd q (by decide), fun q => by omega⟩
    · rw [ray_lo h1 h2, decide_eq_true_eq]
      exact ⟨fun q => Or.inl ⟨h1, by omega, q⟩, fun q => by omega⟩
  · by_cases h2 : q % 1000 ≤ y
    · rw [ray_hi h1 h2, decide_eq_true_eq, crs_anti]
      exact ⟨fun q => Or.inr ⟨h2, by omega, by omega⟩, fun q => by omega⟩
    · rw [ray_n ⟨fun q => absurd q h1, fun q => absurd q h2⟩]
      exact ⟨fun q => absurd q (by decide), fun q => by omega⟩
theorem crs_00 (p q : Int) : crs 0 p q = p / 1000 * (q % 1000) - q / 1000 * (p % 1000) := by
  unfold crs
  rw [show (0 : Int) / 1000 = 0 by rfl, show (0 : Int) % 1000 = 0 by rfl, Int.sub_zero, Int.sub_zero, Int.sub_zero, Int.sub_zero, Int.mul_comm (p % 1000)]
def arF (l : List Int) (K : Nat) : Int := sm (fun i => crs 0 (pg l i) (pr l (i + 1))) K
theorem areaS_cl {S : Stk} (h : S.2 = true) : areaS S = arF S.1 (pcs S) := by
  unfold areaS arF pcs
  rw [if_pos h, if_pos h]
  exact sm_cg _ (fun i _ => (crs_00 _ _).symm)
theorem areaS_op {S : Stk} (h : ¬ S.2 = true) : areaS S = 0 := by
  unfold areaS
  rw [if_neg h]
def lnF (l : List Int) (K : Nat) : Int := sm (fun i => rt (100 * sqd (pg l i) (pr l (i + 1)))) K
def inF (l : List Int) (x y : Int) (K : Nat) : Int := sm (fun i => c01 (ray (pg l i) (pr l (i + 1)) x y)) K
def mxF (z : Bool) (f : Nat → Int) (k : Nat) : Int := match k with
  | 0 => if z = true then 0 else 999
  | k + 1 => mmx z (mxF z f k) (f k)
theorem mxF_ok (z : Bool) (f : Nat → Int) : ∀ n : Nat, (∀ i, i ≤ n → 0 ≤ f i ∧ f i ≤ 999) → bnf z f n = mxF z f (n + 1) := by
  intro n
  induction n with
  | zero =>
    intro h
    have := h 0 (by omega)
    show f 0 = mmx z (mxF z f 0) (f 0)
    unfold mxF mmx
    cases z <;> simp <;> omega
  | succ n ih =>
    intro h
    show mmx z (bnf z f n) (f (n + 1)) = mmx z (mxF z f (n + 1)) (f (n + 1))
    rw [ih (fun i hi => h i (by omega))]
theorem mxF_bd (z : Bool) (f : Nat → Int) : ∀ n : Nat, (∀ i, i < n → 0 ≤ f i ∧ f i ≤ 999) → 0 ≤ mxF z f n ∧ mxF z f n ≤ 999 := by
  intro n
  induction n with
  | zero => intro _; unfold mxF; split <;> omega
  | succ n ih => intro h; exact mmx_bd z (ih (fun i hi => h i (by omega))) (h n (by omega))
/-- the nearest so far: what it is bounded by -/
def nrk (v : Int × Int) : Prop := (v.1 = -6 ∨ (0 ≤ v.1 ∧ v.1 ≤ 1029)) ∧ 0 ≤ v.2 ∧ v.2 ≤ 1996002
theorem nrb_k {p : Int} {c : Nat} {f : Nat → Int} (hp : pt p) (hc : c < 10) : ∀ (n : Nat) (acc : Int × Int), n ≤ 30 → (∀ i, i < n → pt (f i)) → nrk acc → nrk (nrb p c f n acc) := by
  intro n
  induction n with
  | zero => intro acc _ _ h; exact h
  | succ n ih =>
    intro acc h1 h2 h3
    have h4 := ih acc (by omega) (fun i hi => h2 i (by omega)) h3
    unfold nrb
    split
    · have := sqd_bd hp (h2 n (by omega))
      exact ⟨Or.inr ⟨by show (0 : Int) ≤ 100 * c + n; omega, by show (100 * c + n : Int) ≤ 1029; omega⟩, this⟩
    · exact h4
theorem nra_k {p : Int} {Ss : List Stk} (hp : pt p) (w : wfD Ss) : ∀ n : Nat, n ≤ Ss.length → nrk (nra p Ss n) := by
  intro n
  induction n with
  | zero => intro _; exact ⟨Or.inl rfl, by show (0 : Int) ≤ 0; omega, by show (0 : Int) ≤ 1996002; omega⟩
  | succ n ih =>
    intro h
    have ws := w.2 n (by omega)
    exact nrb_k hp (by have := w.1; omega) _ _ ws.2.1 (fun i hi => ws.2.2.1 i hi) (ih (by omega))
theorem tkn.k {S : Stk} {f : Nat → Int} (t : tkn S f) {k : Nat} (h : k < S.1.length) : f k = pg S.1 k := t.1 k h
theorem tkn.r {S : Stk} {f : Nat → Int} (t : tkn S f) {k : Nat} (h : k ≤ S.1.length) : f k = pr S.1 k := by
  unfold pr
  by_cases c : k < S.1.length
  · rw [if_pos c]; exact t.1 k c
  · rw [if_neg c, show k = S.1.length by omega]; exact t.2
theorem c01_bd (b : Bool) : 0 ≤ c01 b ∧ c01 b ≤ 1 := by unfold c01; split <;> omega
theorem sm_rng (f : Nat → Int) (B : Int) : ∀ n : Nat, (∀ i, i < n → 0 ≤ f i ∧ f i ≤ B) → 0 ≤ sm f n ∧ sm f n ≤ B * n := by
  intro n
  induction n with
  | zero => intro _; rw [sm_z]; omega
  | succ n ih =>
    intro h
    have h1 := ih (fun i hi => h i (by omega))
    have h2 := h n (by omega)
    rw [sm_s]
    have e : B * ((n + 1 : Nat) : Int) = B * n + B := by rw [Int.natCast_succ, Int.mul_add, Int.mul_one]
    omega
theorem inF_bd (l : List Int) (x y : Int) (K : Nat) : 0 ≤ inF l x y K ∧ inF l x y K ≤ K := by
  have := sm_rng (fun i => c01 (ray (pg l i) (pr l (i + 1)) x y)) 1 K (fun i _ => c01_bd _)
  unfold inF
  omega
theorem insS_F {S : Stk} (h : S.2 = true) (x y : Int) : insS S x y = inF S.1 x y (pcs S) := by
  unfold insS inF pcs
  rw [if_pos h]
  rfl
/-- no two points that follow one another are equal, the last and the first of a closed stroke neither -/
theorem wf_pc {S : Stk} (w : wfS S) {k : Nat} (h : k < pcs S) : pg S.1 k ≠ pr S.1 (k + 1) := by
  obtain ⟨w1, w2, w3, w4, w5⟩ := w
  unfold pr
  unfold pcs at h
  by_cases c : k + 1 < S.1.length
  · rw [if_pos c]; exact w4 k c
  · rw [if_neg c]
    by_cases z : S.2 = true
    · rw [if_pos z] at h
      have := (w5 z).2
      rw [show k = S.1.length - 1 by omega]
      exact fun q => this q.symm
    · rw [if_neg z] at h; omega
