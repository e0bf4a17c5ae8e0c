/-! ===== simplifying, as the class does it: levels ===== -/
def ui (g : Nat → Int) (j : Nat) (v : Int) : Nat → Int := fun i => if i = j then v else g i
theorem ui_s (g : Nat → Int) (j : Nat) (v : Int) : ui g j v j = v := if_pos rfl
theorem ui_n (g : Nat → Int) {i j : Nat} (v : Int) (h : ¬ i = j) : ui g j v i = g i := if_neg h
theorem upd_ui (g : Nat → Int) (j : Nat) (v : Int) : upd (fun i => I (g i)) j (I v) = fun i => I (ui g j v i) := by
  funext i
  unfold upd ui
  split <;> rfl
def wfS (S : Stk) : Prop := 2 ≤ S.1.length ∧ S.1.length ≤ 30 ∧ stP S.1 ∧ (∀ i, i + 1 < S.1.length → pg S.1 i ≠ pg S.1 (i + 1)) ∧ (S.2 = true → 3 ≤ S.1.length ∧ pg S.1 0 ≠ pg S.1 (S.1.length - 1))
theorem pt_eq {p q : Int} (hp : pt p) (hq : pt q) (h1 : p / 1000 = q / 1000) (h2 : p % 1000 = q % 1000) : p = q := by omega
theorem sq_0 {a : Int} (h : a * a = 0) : a = 0 := by
  rcases Int.mul_eq_zero.mp h with h | h <;> exact h
theorem sq_p {a : Int} (h : a ≠ 0) : 0 < a * a := by
  have h1 := bd_sq a
  have h2 : a * a ≠ 0 := fun q => h (sq_0 q)
  omega
theorem sqd_0 {p q : Int} (hp : pt p) (hq : pt q) : sqd p q = 0 ↔ p = q := by
  unfold sqd
  have h3 := bd_sq (p / 1000 - q / 1000)
  have h4 := bd_sq (p % 1000 - q % 1000)
  refine ⟨fun h => ?_, fun h => ?_⟩
  · have e1 := sq_0 (a := p / 1000 - q / 1000) (by omega)
    have e2 := sq_0 (a := p % 1000 - q % 1000) (by omega)
    exact pt_eq hp hq (by omega) (by omega)
  · subst h; simp
theorem sqd_pos {p q : Int} (hp : pt p) (hq : pt q) (h : p ≠ q) : 0 < sqd p q := by
  have h1 := sqd_bd hp hq
  have h2 : sqd p q ≠ 0 := fun e => h ((sqd_0 hp hq).mp e)
  omega
/-- the square of the side is at most the product of the squares of the distances -/
theorem crs_le (a b p : Int) : crs a b p * crs a b p ≤ sqd a b * sqd a p := by
  unfold crs sqd
  generalize hA : a / 1000 = A
  generalize hB : a % 1000 = B
  generalize hC : b / 1000 = C
  generalize hD : b % 1000 = D
  generalize hE : p / 1000 = E
  generalize hF : p % 1000 = F
  have h := bd_sq ((C - A) * (E - A) + (D - B) * (F - B))
  have e : ((A - C) * (A - C) + (B - D) * (B - D)) * ((A - E) * (A - E) + (B - F) * (B - F)) = ((C - A) * (F - B) - (D - B) * (E - A)) * ((C - A) * (F - B) - (D - B) * (E - A)) + ((C - A) * (E - A) + (D - B) * (F - B)) * ((C - A) * (E - A) + (D - B) * (F - B)) := by
    have e1 : A - C = -(C - A) := by omega
    have e2 : B - D = -(D - B) := by omega
    have e3 : A - E = -(E - A) := by omega
    have e4 : B - F = -(F - B) := by omega
    rw [e1, e2, e3, e4]
    generalize C - A = u
    generalize D - B = v
    generalize E - A = w
    generalize F - B = z
    simp only [Int.neg_mul_neg, Int.mul_add, Int.add_mul, Int.mul_sub, Int.sub_mul]
    have f1 : u * u * (w * w) = u * w * (u * w) := by simp only [Int.mul_comm, Int.mul_left_comm, Int.mul_assoc]
    have f2 : v * v * (w * w) = v * w * (v * w) := by simp only [Int.mul_comm, Int.mul_left_comm, Int.mul_assoc]
    have f3 : u * u * (z * z) = u * z * (u * z) := by simp only [Int.mul_comm, Int.mul_left_comm, Int.mul_assoc]
    have f4 : v * v * (z * z) = v * z * (v * z) := by simp only [Int.mul_comm, Int.mul_left_comm, Int.mul_assoc]
    have f5 : u * z * (v * w) = u * w * (v * z) := by simp only [Int.mul_comm, Int.mul_left_comm, Int.mul_assoc]
    have f6 : v * w * (u * z) = u * w * (v * z) := by simp only [Int.mul_comm, Int.mul_left_comm, Int.mul_assoc]
    have f7 : v * z * (u * w) = u * w * (v * z) := by simp only [Int.mul_comm, Int.mul_left_comm, Int.mul_assoc]
    rw [f1, f2, f3, f4, f5, f6, f7]
    omega
  omega
def offS (a b p : Int) : Int := if a = b then sqd a p else crs a b p * crs a b p
def sclS (a b : Int) : Int := if a = b then 1 else sqd a b
def ownS (a b p : Int) : Int := if offS a b p ≤ 0 then -1 else min 200 (rt ((offS a b p - 1) / sclS a b))
theorem offS_bd {a b p : Int} (ha : pt a) (hb : pt b) (hp : pt p) : 0 ≤ offS a b p ∧ offS a b p ≤ 3984023984004 := by
  unfold offS
  split
  · have := sqd_bd ha hp; omega
  · have h1 := crs_bd ha hb hp
    have h2 := crs2_bd h1 h1
    have h3 := bd_sq (crs a b p)
    omega
theorem sclS_bd {a b : Int} (ha : pt a) (hb : pt b) : 1 ≤ sclS a b ∧ sclS a b ≤ 1996002 := by
  unfold sclS
  split
  · omega
  · have h1 := sqd_bd ha hb
    have h2 := sqd_pos ha hb (by assumption)
    omega
theorem off_scl {a b p : Int} (ha : pt a) (hp : pt p) : offS a b p ≤ sclS a b * 1996002 := by
  have h3 := sqd_bd ha hp
  unfold offS sclS
  split
  · omega
  · have h1 := crs_le a b p
    have h2 : 0 ≤ sqd a b := by
      unfold sqd
      have := bd_sq (a / 1000 - b / 1000)
      have := bd_sq (a % 1000 - b % 1000)
      omega
    have h4 := Int.mul_le_mul_of_nonneg_left h3.2 h2
    omega
theorem own_div {a b p : Int} (ha : pt a) (hb : pt b) (hp : pt p) (h : 0 < offS a b p) : 0 ≤ (offS a b p - 1) / sclS a b ∧ (offS a b p - 1) / sclS a b < 1073741824 := by
  have h1 := sclS_bd ha hb
  have h2 := off_scl (b := b) ha hp
  refine ⟨Int.ediv_nonneg (by omega) (by omega), ?_⟩
  refine Int.ediv_lt_of_lt_mul (by omega) ?_
  have h3 : sclS a b * 1996002 ≤ 1073741824 * sclS a b := by omega
  omega
/-- a point's own level, against the question of the text -/
theorem own_iff {a b p t : Int} (ha : pt a) (hb : pt b) (hp : pt p) (ht : 0 ≤ t ∧ t ≤ 200) : t ≤ ownS a b p ↔ t * t * sclS a b < offS a b p := by
  have h1 := sclS_bd ha hb
  have h2 := offS_bd ha hb hp
  have h0 := Int.mul_nonneg (bd_sq t) (show 0 ≤ sclS a b by omega)
  unfold ownS
  by_cases c : offS a b p ≤ 0
  · rw [if_pos c]; omega
  · rw [if_neg c]
    have h3 := own_div ha hb hp (by omega)
    have h4 := rt_ok h3.1 h3.2
    have h5 : t ≤ rt ((offS a b p - 1) / sclS a b) ↔ t * t ≤ (offS a b p - 1) / sclS a b := by
      refine ⟨fun h => Int.le_trans (sq_mono ht.1 h) h4.2.1, fun h => ?_⟩
      by_cases q : t ≤ rt ((offS a b p - 1) / sclS a b)
      · exact q
      · have := sq_mono (a := rt ((offS a b p - 1) / sclS a b) + 1) (b := t) (by omega) (by omega)
        omega
    rw [show (t ≤ min 200 (rt ((offS a b p - 1) / sclS a b))) ↔ t ≤ rt ((offS a b p - 1) / sclS a b) by omega, h5, Int.le_ediv_iff_mul_le (by omega)]
    omega
theorem own_rng (a b p : Int) (ha : pt a) (hb : pt b) (hp : pt p) : -1 ≤ ownS a b p ∧ ownS a b p ≤ 200 := by
  unfold ownS
  split
  · omega
  · have h3 := own_div ha hb hp (by omega)
    have h4 := rt_ok h3.1 h3.2
    omega
def ffb (l : List Int) (n : Nat) : Nat := match n with
  | 0 => 0
  | n + 1 => if sqd (pg l 0) (pg l (ffb l n)) < sqd (pg l 0) (pg l (n + 1)) then n + 1 else ffb l n
def ffS (S : Stk) : Nat := ffb S.1 (S.1.length - 1)
theorem ffb_le (l : List Int) : ∀ n, ffb l n ≤ n := by
  intro n
  induction n with
  | zero => exact Nat.le_refl _
  | succ n ih => unfold ffb; split <;> omega
theorem ffb_1 {S : Stk} (w : wfS S) : ∀ n, 1 ≤ n → n < S.1.length → 1 ≤ ffb S.1 n := by
  obtain ⟨w1, w2, w3, w4, w5⟩ := w
  intro n
  induction n with
  | zero => intro h; omega
  | succ n ih =>
    intro _ hn
    unfold ffb
    by_cases e : n = 0
    · subst e
      have h1 := sqd_pos (w3 0 (by omega)) (w3 1 (by omega)) (w4 0 (by omega))
      have h2 := (sqd_0 (w3 0 (by omega)) (w3 0 (by omega))).mpr rfl
      rw [if_pos (show sqd (pg S.1 0) (pg S.1 (ffb S.1 0)) < sqd (pg S.1 0) (pg S.1 (0 + 1)) from h2 ▸ h1)]
      exact Nat.le_refl _
    · have := ih (by omega) (by omega)
      split <;> omega
theorem ffS_rng {S : Stk} (w : wfS S) : 1 ≤ ffS S ∧ ffS S < S.1.length := by
  have h1 := ffb_1 w (S.1.length - 1) (by have := w.1; omega) (by have := w.1; omega)
  have h2 := ffb_le S.1 (S.1.length - 1)
  have := w.1
  unfold ffS
  omega
/-- the first one of the numbers a + 1 to a + 1 + m with the greatest value -/
def fbb (f : Nat → Int) (a m : Nat) : Nat := match m with
  | 0 => a + 1
  | m + 1 => if f (fbb f a m) < f (a + 1 + (m + 1)) then a + 1 + (m + 1) else fbb f a m
theorem fbb_rng (f : Nat → Int) (a : Nat) : ∀ m, a < fbb f a m ∧ fbb f a m ≤ a + 1 + m := by
  intro m
  induction m with
  | zero => exact ⟨Nat.lt_succ_self _, Nat.le_refl _⟩
  | succ m ih => unfold fbb; split <;> omega
def frS (S : Stk) (a b : Nat) : Nat := fbb (fun i => offS (pg S.1 a) (pr S.1 b) (pg S.1 i)) a (b - a - 2)
theorem frS_rng (S : Stk) {a b : Nat} (h : a + 1 < b) : a < frS S a b ∧ frS S a b < b := by
  have := fbb_rng (fun i => offS (pg S.1 a) (pr S.1 b) (pg S.1 i)) a (b - a - 2)
  unfold frS
  omega
def owS (S : Stk) (a b : Nat) : Int := ownS (pg S.1 a) (pr S.1 b) (pg S.1 (frS S a b))
def lv (S : Stk) (n a b : Nat) (c : Int) (k : Nat) : Int := match n with
  | 0 => c
  | n + 1 => if b ≤ a + 1 then c else if k = frS S a b then min c (owS S a b) else if k < frS S a b then lv S n a (frS S a b) (min c (owS S a b)) k else lv S n (frS S a b) b (min c (owS S a b)) k
def levS (S : Stk) (k : Nat) : Int := if k = 0 ∨ k = pcs S then 200 else if S.2 = true then (if k = ffS S then 200 else if k < ffS S then lv S 31 0 (ffS S) 200 k else lv S 31 (ffS S) (pcs S) 200 k) else lv S 31 0 (pcs S) 200 k
def pick (f : Nat → Bool) (l : List Int) (n : Nat) : List Int := match n with
  | 0 => []
  | n + 1 => pick f l n ++ (if f n = true then [pg l n] else [])
theorem pick_len (f : Nat → Bool) (l : List Int) : ∀ n, (pick f l n).length ≤ n := by
  intro n
  induction n with
  | zero => exact Nat.le_refl _
  | succ n ih => unfold pick; rw [List.length_append]; split <;> simp <;> omega
theorem stP_app {l r : List Int} (hl : stP l) (hr : stP r) : stP (l ++ r) := by
  intro i hi
  rw [List.length_append] at hi
  by_cases c : i < l.length
  · rw [pg_app_l _ _ c]; exact hl i c
  · rw [pg_app_r _ _ (by omega)]; exact hr _ (by omega)
theorem stP_one {p : Int} (h : pt p) : stP [p] := by
  intro i hi
  simp at hi
  subst hi
  exact h
theorem stP_nil : stP [] := fun i hi => absurd hi (by simp)
theorem pick_pt (f : Nat → Bool) {l : List Int} (hp : stP l) : ∀ n, n ≤ l.length → stP (pick f l n) := by
  intro n
  induction n with
  | zero => intro _; exact stP_nil
  | succ n ih =>
    intro hn
    unfold pick
    refine stP_app (ih (by omega)) ?_
    split
    · exact stP_one (hp n (by omega))
    · exact stP_nil
theorem pick_ne (f : Nat → Bool) (l : List Int) (h0 : f 0 = true) : ∀ n, 1 ≤ n → 0 < (pick f l n).length := by
  intro n hn
  induction n with
  | zero => omega
  | succ n ih =>
    unfold pick
    rw [List.length_append]
    by_cases e : n = 0
    · subst e; rw [if_pos h0]; simp
    · have := ih (by omega); omega
def picS (S : Stk) (t : Int) : List Int := pick (fun i => decide (t ≤ levS S i)) S.1 S.1.length
def smpS (S : Stk) (t : Int) : Stk := if rep (picS S t, S.2) ≠ -6 ∨ (S.2 = true ∧ (picS S t).length < 3) then S else (picS S t, S.2)
/-! the levels' cells -/
def thn (h : g_H) (a : Nat) (g : Nat → Int) : Prop := h[a]? = some (.inr (.inr (4, [.ref (a + 1)]))) ∧ h[a + 1]? = some (.inl (0, 31, fun i => I (g i))) ∧ ∀ i, i < 31 → -2 ≤ g i ∧ g i ≤ 200
def thnX (h : g_H) (a : Nat) : Prop := ∃ g, thn h a g
theorem thn.kp {h h' : g_H} {a lo hi : Nat} {g : Nat → Int} (q : thn h a g) (c : chg lo hi h h') (ho : a + 2 ≤ lo ∨ hi ≤ a) : thn h' a g := ⟨(c.at (by omega)).trans q.1, (c.at (by omega)).trans q.2.1, q.2.2⟩
theorem thnX.kp {h h' : g_H} {a lo hi : Nat} (q : thnX h a) (c : chg lo hi h h') (ho : a + 2 ≤ lo ∨ hi ≤ a) : thnX h' a := by
  obtain ⟨g, q⟩ := q
  exact ⟨g, q.kp c ho⟩
theorem thn.st {h : g_H} {a i : Nat} {g : Nat → Int} {v : Int} (q : thn h a g) (hv : -2 ≤ v ∧ v ≤ 200) : thn (h.set (a + 1) (.inl (0, 31, upd (fun i => I (g i)) i (I v)))) a (ui g i v) := by
  refine ⟨(h_ne _ (by omega)).trans q.1, ?_, fun j hj => ?_⟩
  · rw [upd_ui]; exact h_at _ q.2.1
  · unfold ui; split
    · exact hv
    · exact q.2.2 j hj
/-! blocks of Thinning_measure -/
theorem ml_Thinning_measure : (g_m Thinning_measure).2.2.1 = 8 := rfl
theorem rt_Thinning_measure : (g_m Thinning_measure).2.2.2.1 = none := rfl
theorem B_Thinning_measure_0 {d mc ms cs ss : Nat} {L : List (Option Value)} {st : List Value} {h : g_H} {Q : g_Po} (hw : g_wp Thinning_measure d mc ms Q 4 [(0, 1, 0, 0, 0, 0, .aload_n 1), (1, 3, 42, 2, 2192, 0, .invokevirtual 15)] cs ss L st h) : G Thinning_measure d mc ms cs ss 0 L st h Q := G.run (by decide +kernel) hw
theorem B_Thinning_measure_4 {d mc ms cs ss : Nat} {L : List (Option Value)} {st : List Value} {h : g_H} {Q : g_Po} (hw : g_wp Thinning_measure d mc ms Q 7 [(4, 1, 0, 0, 0, 0, .istore_n 2), (5, 1, 0, 0, 0, 0, .iconst 0), (6, 1, 0, 0, 0, 0, .istore_n 3)] cs ss L st h) : G Thinning_measure d mc ms cs ss 4 L st h Q := G.run (by decide +kernel) hw
theorem B_Thinning_measure_7 {d mc ms cs ss : Nat} {L : List (Option Value)} {st : List Value} {h : g_H} {Q : g_Po} (hw : g_wp Thinning_measure d mc ms Q 16 [(7, 1, 0, 0, 0, 0, .iload_n 3), (8, 1, 0, 0, 0, 0, .aload_n 0), (9, 3, 4, 0, 1093, 2, .getfield 9), (12, 1, 0, 0, 0, 0, .arraylength), (13, 3, 30, 0, 0, 0, .if_icmp .ge 17)] cs ss L st h) : G Thinning_measure d mc ms cs ss 7 L st h Q := G.run (by decide +kernel) hw
theorem B_Thinning_measure_16 {d mc ms cs ss : Nat} {L : List (Option Value)} {st : List Value} {h : g_H} {Q : g_Po} (hw : g_wp Thinning_measure d mc ms Q 30 [(16, 1, 0, 0, 0, 0, .aload_n 0), (17, 3, 4, 0, 1093, 2, .getfield 9), (20, 1, 0, 0, 0, 0, .iload_n 3), (21, 2, 0, 0, 0, (-2), .bipush (-2)), (23, 1, 0, 0, 0, 0, .iastore), (24, 3, 0, 0, 0, 1, .iinc 3 1), (27, 3, 7, 0, 0, 0, .goto (-20))] cs ss L st h) : G Thinning_measure d mc ms cs ss 16 L st h Q := G.run (by decide +kernel) hw
theorem B_Thinning_measure_30 {d mc ms cs ss : Nat} {L : List (Option Value)} {st : List Value} {h : g_H} {Q : g_Po} (hw : g_wp Thinning_measure d mc ms Q 38 [(30, 1, 0, 0, 0, 0, .aload_n 0), (31, 1, 0, 0, 0, 0, .iconst 0), (32, 3, 0, 0, 0, 200, .sipush 200), (35, 3, 50, 4, 2193, 2, .invokevirtual 21)] cs ss L st h) : G Thinning_measure d mc ms cs ss 30 L st h Q := G.run (by decide +kernel) hw
theorem B_Thinning_measure_38 {d mc ms cs ss : Nat} {L : List (Option Value)} {st : List Value} {h : g_H} {Q : g_Po} (hw : g_wp Thinning_measure d mc ms Q 46 [(38, 1, 0, 0, 0, 0, .aload_n 0), (39, 1, 0, 0, 0, 0, .iload_n 2), (40, 3, 0, 0, 0, 200, .sipush 200), (43, 3, 50, 4, 2193, 2, .invokevirtual 21)] cs ss L st h) : G Thinning_measure d mc ms cs ss 38 L st h Q := G.run (by decide +kernel) hw
theorem B_Thinning_measure_46 {d mc ms cs ss : Nat} {L : List (Option Value)} {st : List Value} {h : g_H} {Q : g_Po} (hw : g_wp Thinning_measure d mc ms Q 53 [(46, 1, 0, 0, 0, 0, .aload_n 1), (47, 3, 2, 2, 1042, 1, .getfield 25), (50, 3, 64, 0, 0, 0, .ifCond .eq 14)] cs ss L st h) : G Thinning_measure d mc ms cs ss 46 L st h Q := G.run (by decide +kernel) hw
theorem B_Thinning_measure_53 {d mc ms cs ss : Nat} {L : List (Option Value)} {st : List Value} {h : g_H} {Q : g_Po} (hw : g_wp Thinning_measure d mc ms Q 58 [(53, 1, 0, 0, 0, 0, .aload_n 0), (54, 1, 0, 0, 0, 0, .aload_n 1), (55, 3, 52, 0, 2197, 1, .invokestatic 29)] cs ss L st h) : G Thinning_measure d mc ms cs ss 53 L st h Q := G.run (by decide +kernel) hw
theorem B_Thinning_measure_58 {d mc ms cs ss : Nat} {L : List (Option Value)} {st : List Value} {h : g_H} {Q : g_Po} (hw : g_wp Thinning_measure d mc ms Q 64 [(58, 3, 0, 0, 0, 200, .sipush 200), (61, 3, 50, 4, 2193, 2, .invokevirtual 21)] cs ss L st h) : G Thinning_measure d mc ms cs ss 58 L st h Q := G.run (by decide +kernel) hw
theorem B_Thinning_measure_64 {d mc ms cs ss : Nat} {L : List (Option Value)} {st : List Value} {h : g_H} {Q : g_Po} (hw : g_wp Thinning_measure d mc ms Q 69 [(64, 1, 0, 0, 0, 0, .iconst 0), (65, 1, 0, 0, 0, 0, .istore_n 3), (66, 1, 0, 0, 0, 0, .iconst 0), (67, 2, 0, 0, 0, 0, .istore 4)] cs ss L st h) : G Thinning_measure d mc ms cs ss 64 L st h Q := G.run (by decide +kernel) hw
theorem B_Thinning_measure_69 {d mc ms cs ss : Nat} {L : List (Option Value)} {st : List Value} {h : g_H} {Q : g_Po} (hw : g_wp Thinning_measure d mc ms Q 81 [(69, 2, 0, 0, 0, 0, .iload 4), (71, 1, 0, 0, 0, 2, .iconst 2), (72, 1, 0, 0, 0, 0, .aload_n 0), (73, 3, 4, 0, 1093, 2, .getfield 9), (76, 1, 0, 0, 0, 0, .arraylength), (77, 1, 0, 0, 0, 0, .imul), (78, 3, 158, 0, 0, 0, .if_icmp .ge 80)] cs ss L st h) : G Thinning_measure d mc ms cs ss 69 L st h Q := G.run (by decide +kernel) hw
theorem B_Thinning_measure_81 {d mc ms cs ss : Nat} {L : List (Option Value)} {st : List Value} {h : g_H} {Q : g_Po} (hw : g_wp Thinning_measure d mc ms Q 86 [(81, 1, 0, 0, 0, 0, .iload_n 3), (82, 1, 0, 0, 0, 0, .iload_n 2), (83, 3, 158, 0, 0, 0, .if_icmp .ge 75)] cs ss L st h) : G Thinning_measure d mc ms cs ss 81 L st h Q := G.run (by decide +kernel) hw
theorem B_Thinning_measure_86 {d mc ms cs ss : Nat} {L : List (Option Value)} {st : List Value} {h : g_H} {Q : g_Po} (hw : g_wp Thinning_measure d mc ms Q 92 [(86, 1, 0, 0, 0, 0, .aload_n 0), (87, 1, 0, 0, 0, 0, .iload_n 3), (88, 1, 0, 0, 0, 0, .iload_n 2), (89, 3, 51, 4, 2203, 2, .invokevirtual 33)] cs ss L st h) : G Thinning_measure d mc ms cs ss 86 L st h Q := G.run (by decide +kernel) hw
theorem B_Thinning_measure_92 {d mc ms cs ss : Nat} {L : List (Option Value)} {st : List Value} {h : g_H} {Q : g_Po} (hw : g_wp Thinning_measure d mc ms Q 101 [(92, 2, 0, 0, 0, 0, .istore 5), (94, 1, 0, 0, 0, 0, .aload_n 1), (95, 1, 0, 0, 0, 0, .iload_n 3), (96, 2, 0, 0, 0, 0, .iload 5), (98, 3, 53, 0, 2211, 3, .invokestatic 37)] cs ss L st h) : G Thinning_measure d mc ms cs ss 92 L st h Q := G.run (by decide +kernel) hw
theorem B_Thinning_measure_101 {d mc ms cs ss : Nat} {L : List (Option Value)} {st : List Value} {h : g_H} {Q : g_Po} (hw : g_wp Thinning_measure d mc ms Q 110 [(101, 2, 0, 0, 0, 0, .istore 6), (103, 2, 0, 0, 0, 0, .iload 6), (105, 2, 0, 0, 0, (-6), .bipush (-6)), (107, 3, 116, 0, 0, 0, .if_icmp .ne 9)] cs ss L st h) : G Thinning_measure d mc ms cs ss 101 L st h Q := G.run (by decide +kernel) hw
theorem B_Thinning_measure_110 {d mc ms cs ss : Nat} {L : List (Option Value)} {st : List Value} {h : g_H} {Q : g_Po} (hw : g_wp Thinning_measure d mc ms Q 116 [(110, 2, 0, 0, 0, 0, .iload 5), (112, 1, 0, 0, 0, 0, .istore_n 3), (113, 3, 152, 0, 0, 0, .goto 39)] cs ss L st h) : G Thinning_measure d mc ms cs ss 110 L st h Q := G.run (by decide +kernel) hw
theorem B_Thinning_measure_116 {d mc ms cs ss : Nat} {L : List (Option Value)} {st : List Value} {h : g_H} {Q : g_Po} (hw : g_wp Thinning_measure d mc ms Q 121 [(116, 1, 0, 0, 0, 0, .aload_n 0), (117, 1, 0, 0, 0, 0, .iload_n 3), (118, 3, 49, 4, 2207, 1, .invokevirtual 41)] cs ss L st h) : G Thinning_measure d mc ms cs ss 116 L st h Q := G.run (by decide +kernel) hw
theorem B_Thinning_measure_121 {d mc ms cs ss : Nat} {L : List (Option Value)} {st : List Value} {h : g_H} {Q : g_Po} (hw : g_wp Thinning_measure d mc ms Q 127 [(121, 1, 0, 0, 0, 0, .aload_n 0), (122, 2, 0, 0, 0, 0, .iload 5), (124, 3, 49, 4, 2207, 1, .invokevirtual 41)] cs ss L st h) : G Thinning_measure d mc ms cs ss 121 L st h Q := G.run (by decide +kernel) hw
theorem B_Thinning_measure_127 {d mc ms cs ss : Nat} {L : List (Option Value)} {st : List Value} {h : g_H} {Q : g_Po} (hw : g_wp Thinning_measure d mc ms Q 146 [(127, 3, 9994, 0, 2220, 2, .invokestatic 45), (130, 2, 0, 0, 0, 0, .istore 7), (132, 1, 0, 0, 0, 0, .aload_n 0), (133, 2, 0, 0, 0, 0, .iload 6), (135, 2, 0, 0, 0, 0, .iload 7), (137, 1, 0, 0, 0, 0, .aload_n 1), (138, 1, 0, 0, 0, 0, .iload_n 3), (139, 2, 0, 0, 0, 0, .iload 5), (141, 2, 0, 0, 0, 0, .iload 6), (143, 3, 56, 0, 2221, 4, .invokestatic 50)] cs ss L st h) : G Thinning_measure d mc ms cs ss 127 L st h Q := G.run (by decide +kernel) hw
theorem B_Thinning_measure_146 {d mc ms cs ss : Nat} {L : List (Option Value)} {st : List Value} {h : g_H} {Q : g_Po} (hw : g_wp Thinning_measure d mc ms Q 152 [(146, 3, 9994, 0, 2220, 2, .invokestatic 45), (149, 3, 50, 4, 2193, 2, .invokevirtual 21)] cs ss L st h) : G Thinning_measure d mc ms cs ss 146 L st h Q := G.run (by decide +kernel) hw
theorem B_Thinning_measure_152 {d mc ms cs ss : Nat} {L : List (Option Value)} {st : List Value} {h : g_H} {Q : g_Po} (hw : g_wp Thinning_measure d mc ms Q 158 [(152, 3, 0, 0, 0, 1, .iinc 4 1), (155, 3, 69, 0, 0, 0, .goto (-86))] cs ss L st h) : G Thinning_measure d mc ms cs ss 152 L st h Q := G.run (by decide +kernel) hw
theorem B_Thinning_measure_158 {d mc ms cs ss : Nat} {L : List (Option Value)} {st : List Value} {h : g_H} {Q : g_Po} (hw : g_wp Thinning_measure d mc ms Q 159 [(158, 1, 0, 0, 0, 0, .return_)] cs ss L st h) : G Thinning_measure d mc ms cs ss 158 L st h Q := G.run (by decide +kernel) hw
/-! blocks of Thinning_thin -/
theorem ml_Thinning_thin : (g_m Thinning_thin).2.2.1 = 5 := rfl
theorem rt_Thinning_thin : (g_m Thinning_thin).2.2.2.1 = none := rfl
theorem B_Thinning_thin_0 {d mc ms cs ss : Nat} {L : List (Option Value)} {st : List Value} {h : g_H} {Q : g_Po} (hw : g_wp Thinning_thin d mc ms Q 4 [(0, 1, 0, 0, 0, 0, .aload_n 3), (1, 3, 36, 2, 2232, 0, .invokevirtual 54)] cs ss L st h) : G Thinning_thin d mc ms cs ss 0 L st h Q := G.run (by decide +kernel) hw
theorem B_Thinning_thin_4 {d mc ms cs ss : Nat} {L : List (Option Value)} {st : List Value} {h : g_H} {Q : g_Po} (hw : g_wp Thinning_thin d mc ms Q 15 [(4, 1, 0, 0, 0, 0, .aload_n 3), (5, 1, 0, 0, 0, 0, .aload_n 1), (6, 3, 2, 2, 1042, 1, .getfield 25), (9, 3, 2, 2, 1042, 1, .putfield 25), (12, 1, 0, 0, 0, 0, .iconst 0), (13, 2, 0, 0, 0, 0, .istore 4)] cs ss L st h) : G Thinning_thin d mc ms cs ss 4 L st h Q := G.run (by decide +kernel) hw
theorem B_Thinning_thin_15 {d mc ms cs ss : Nat} {L : List (Option Value)} {st : List Value} {h : g_H} {Q : g_Po} (hw : g_wp Thinning_thin d mc ms Q 24 [(15, 2, 0, 0, 0, 0, .iload 4), (17, 1, 0, 0, 0, 0, .aload_n 1), (18, 3, 2, 1, 1037, 0, .getfield 57), (21, 3, 50, 0, 0, 0, .if_icmp .ge 29)] cs ss L st h) : G Thinning_thin d mc ms cs ss 15 L st h Q := G.run (by decide +kernel) hw
theorem B_Thinning_thin_24 {d mc ms cs ss : Nat} {L : List (Option Value)} {st : List Value} {h : g_H} {Q : g_Po} (hw : g_wp Thinning_thin d mc ms Q 30 [(24, 1, 0, 0, 0, 0, .aload_n 0), (25, 2, 0, 0, 0, 0, .iload 4), (27, 3, 49, 4, 2207, 1, .invokevirtual 41)] cs ss L st h) : G Thinning_thin d mc ms cs ss 24 L st h Q := G.run (by decide +kernel) hw
theorem B_Thinning_thin_30 {d mc ms cs ss : Nat} {L : List (Option Value)} {st : List Value} {h : g_H} {Q : g_Po} (hw : g_wp Thinning_thin d mc ms Q 34 [(30, 1, 0, 0, 0, 0, .iload_n 2), (31, 3, 44, 0, 0, 0, .if_icmp .lt 13)] cs ss L st h) : G Thinning_thin d mc ms cs ss 30 L st h Q := G.run (by decide +kernel) hw
theorem B_Thinning_thin_34 {d mc ms cs ss : Nat} {L : List (Option Value)} {st : List Value} {h : g_H} {Q : g_Po} (hw : g_wp Thinning_thin d mc ms Q 41 [(34, 1, 0, 0, 0, 0, .aload_n 3), (35, 1, 0, 0, 0, 0, .aload_n 1), (36, 2, 0, 0, 0, 0, .iload 4), (38, 3, 33, 2, 2201, 1, .invokevirtual 61)] cs ss L st h) : G Thinning_thin d mc ms cs ss 34 L st h Q := G.run (by decide +kernel) hw
theorem B_Thinning_thin_41 {d mc ms cs ss : Nat} {L : List (Option Value)} {st : List Value} {h : g_H} {Q : g_Po} (hw : g_wp Thinning_thin d mc ms Q 44 [(41, 3, 35, 2, 2233, 1, .invokevirtual 64)] cs ss L st h) : G Thinning_thin d mc ms cs ss 41 L st h Q := G.run (by decide +kernel) hw
theorem B_Thinning_thin_44 {d mc ms cs ss : Nat} {L : List (Option Value)} {st : List Value} {h : g_H} {Q : g_Po} (hw : g_wp Thinning_thin d mc ms Q 50 [(44, 3, 0, 0, 0, 1, .iinc 4 1), (47, 3, 15, 0, 0, 0, .goto (-32))] cs ss L st h) : G Thinning_thin d mc ms cs ss 44 L st h Q := G.run (by decide +kernel) hw
theorem B_Thinning_thin_50 {d mc ms cs ss : Nat} {L : List (Option Value)} {st : List Value} {h : g_H} {Q : g_Po} (hw : g_wp Thinning_thin d mc ms Q 54 [(50, 1, 0, 0, 0, 0, .aload_n 3), (51, 3, 44, 2, 2234, 0, .invokevirtual 68)] cs ss L st h) : G Thinning_thin d mc ms cs ss 50 L st h Q := G.run (by decide +kernel) hw
theorem B_Thinning_thin_54 {d mc ms cs ss : Nat} {L : List (Option Value)} {st : List Value} {h : g_H} {Q : g_Po} (hw : g_wp Thinning_thin d mc ms Q 59 [(54, 2, 0, 0, 0, (-6), .bipush (-6)), (56, 3, 74, 0, 0, 0, .if_icmp .ne 18)] cs ss L st h) : G Thinning_thin d mc ms cs ss 54 L st h Q := G.run (by decide +kernel) hw
theorem B_Thinning_thin_59 {d mc ms cs ss : Nat} {L : List (Option Value)} {st : List Value} {h : g_H} {Q : g_Po} (hw : g_wp Thinning_thin d mc ms Q 66 [(59, 1, 0, 0, 0, 0, .aload_n 1), (60, 3, 2, 2, 1042, 1, .getfield 25), (63, 3, 79, 0, 0, 0, .ifCond .eq 16)] cs ss L st h) : G Thinning_thin d mc ms cs ss 59 L st h Q := G.run (by decide +kernel) hw
theorem B_Thinning_thin_66 {d mc ms cs ss : Nat} {L : List (Option Value)} {st : List Value} {h : g_H} {Q : g_Po} (hw : g_wp Thinning_thin d mc ms Q 74 [(66, 1, 0, 0, 0, 0, .aload_n 3), (67, 3, 2, 1, 1037, 0, .getfield 57), (70, 1, 0, 0, 0, 3, .iconst 3), (71, 3, 79, 0, 0, 0, .if_icmp .ge 8)] cs ss L st h) : G Thinning_thin d mc ms cs ss 66 L st h Q := G.run (by decide +kernel) hw
theorem B_Thinning_thin_74 {d mc ms cs ss : Nat} {L : List (Option Value)} {st : List Value} {h : g_H} {Q : g_Po} (hw : g_wp Thinning_thin d mc ms Q 79 [(74, 1, 0, 0, 0, 0, .aload_n 3), (75, 1, 0, 0, 0, 0, .aload_n 1), (76, 3, 38, 2, 3000, 1, .invokevirtual 71)] cs ss L st h) : G Thinning_thin d mc ms cs ss 74 L st h Q := G.run (by decide +kernel) hw
theorem B_Thinning_thin_79 {d mc ms cs ss : Nat} {L : List (Option Value)} {st : List Value} {h : g_H} {Q : g_Po} (hw : g_wp Thinning_thin d mc ms Q 80 [(79, 1, 0, 0, 0, 0, .return_)] cs ss L st h) : G Thinning_thin d mc ms cs ss 79 L st h Q := G.run (by decide +kernel) hw
/-! blocks of Thinning_levelOf -/
theorem ml_Thinning_levelOf : (g_m Thinning_levelOf).2.2.1 = 2 := rfl
theorem rt_Thinning_levelOf : (g_m Thinning_levelOf).2.2.2.1 = (some .int) := rfl
theorem B_Thinning_levelOf_0 {d mc ms cs ss : Nat} {L : List (Option Value)} {st : List Value} {h : g_H} {Q : g_Po} (hw : g_wp Thinning_levelOf d mc ms Q 4 [(0, 1, 0, 0, 0, 0, .iload_n 1), (1, 3, 22, 0, 0, 0, .ifCond .lt 21)] cs ss L st h) : G Thinning_levelOf d mc ms cs ss 0 L st h Q := G.run (by decide +kernel) hw
theorem B_Thinning_levelOf_4 {d mc ms cs ss : Nat} {L : List (Option Value)} {st : List Value} {h : g_H} {Q : g_Po} (hw : g_wp Thinning_levelOf d mc ms Q 13 [(4, 1, 0, 0, 0, 0, .iload_n 1), (5, 1, 0, 0, 0, 0, .aload_n 0), (6, 3, 4, 0, 1093, 2, .getfield 9), (9, 1, 0, 0, 0, 0, .arraylength), (10, 3, 22, 0, 0, 0, .if_icmp .ge 12)] cs ss L st h) : G Thinning_levelOf d mc ms cs ss 4 L st h Q := G.run (by decide +kernel) hw
theorem B_Thinning_levelOf_13 {d mc ms cs ss : Nat} {L : List (Option Value)} {st : List Value} {h : g_H} {Q : g_Po} (hw : g_wp Thinning_levelOf d mc ms Q 22 [(13, 1, 0, 0, 0, 0, .aload_n 0), (14, 3, 4, 0, 1093, 2, .getfield 9), (17, 1, 0, 0, 0, 0, .iload_n 1), (18, 1, 0, 0, 0, 0, .iaload), (19, 3, 23, 0, 0, 0, .goto 4)] cs ss L st h) : G Thinning_levelOf d mc ms cs ss 13 L st h Q := G.run (by decide +kernel) hw
theorem B_Thinning_levelOf_22 {d mc ms cs ss : Nat} {L : List (Option Value)} {st : List Value} {h : g_H} {Q : g_Po} (hw : g_wp Thinning_levelOf d mc ms Q 23 [(22, 1, 0, 0, 0, (-1), .iconst (-1))] cs ss L st h) : G Thinning_levelOf d mc ms cs ss 22 L st h Q := G.run (by decide +kernel) hw
theorem B_Thinning_levelOf_23 {d mc ms cs ss : Nat} {L : List (Option Value)} {st : List Value} {h : g_H} {Q : g_Po} (hw : g_wp Thinning_levelOf d mc ms Q 24 [(23, 1, 0, 0, 0, 0, .ireturn)] cs ss L st h) : G Thinning_levelOf d mc ms cs ss 23 L st h Q := G.run (by decide +kernel) hw
/-! blocks of Thinning_setLevel -/
theorem ml_Thinning_setLevel : (g_m Thinning_setLevel).2.2.1 = 3 := rfl
theorem rt_Thinning_setLevel : (g_m Thinning_setLevel).2.2.2.1 = none := rfl
theorem B_Thinning_setLevel_0 {d mc ms cs ss : Nat} {L : List (Option Value)} {st : List Value} {h : g_H} {Q : g_Po} (hw : g_wp Thinning_setLevel d mc ms Q 4 [(0, 1, 0, 0, 0, 0, .iload_n 1), (1, 3, 20, 0, 0, 0, .ifCond .lt 19)] cs ss L st h) : G Thinning_setLevel d mc ms cs ss 0 L st h Q := G.run (by decide +kernel) hw
theorem B_Thinning_setLevel_4 {d mc ms cs ss : Nat} {L : List (Option Value)} {st : List Value} {h : g_H} {Q : g_Po} (hw : g_wp Thinning_setLevel d mc ms Q 13 [(4, 1, 0, 0, 0, 0, .iload_n 1), (5, 1, 0, 0, 0, 0, .aload_n 0), (6, 3, 4, 0, 1093, 2, .getfield 9), (9, 1, 0, 0, 0, 0, .arraylength), (10, 3, 20, 0, 0, 0, .if_icmp .ge 10)] cs ss L st h) : G Thinning_setLevel d mc ms cs ss 4 L st h Q := G.run (by decide +kernel) hw
theorem B_Thinning_setLevel_13 {d mc ms cs ss : Nat} {L : List (Option Value)} {st : List Value} {h : g_H} {Q : g_Po} (hw : g_wp Thinning_setLevel d mc ms Q 20 [(13, 1, 0, 0, 0, 0, .aload_n 0), (14, 3, 4, 0, 1093, 2, .getfield 9), (17, 1, 0, 0, 0, 0, .iload_n 1), (18, 1, 0, 0, 0, 0, .iload_n 2), (19, 1, 0, 0, 0, 0, .iastore)] cs ss L st h) : G Thinning_setLevel d mc ms cs ss 13 L st h Q := G.run (by decide +kernel) hw
theorem B_Thinning_setLevel_20 {d mc ms cs ss : Nat} {L : List (Option Value)} {st : List Value} {h : g_H} {Q : g_Po} (hw : g_wp Thinning_setLevel d mc ms Q 21 [(20, 1, 0, 0, 0, 0, .return_)] cs ss L st h) : G Thinning_setLevel d mc ms cs ss 20 L st h Q := G.run (by decide +kernel) hw
/-! blocks of Thinning_nextWithLevel -/
theorem ml_Thinning_nextWithLevel : (g_m Thinning_nextWithLevel).2.2.1 = 4 := rfl
theorem rt_Thinning_nextWithLevel : (g_m Thinning_nextWithLevel).2.2.2.1 = (some .int) := rfl
theorem B_Thinning_nextWithLevel_0 {d mc ms cs ss : Nat} {L : List (Option Value)} {st : List Value} {h : g_H} {Q : g_Po} (hw : g_wp Thinning_nextWithLevel d mc ms Q 4 [(0, 1, 0, 0, 0, 0, .iload_n 1), (1, 1, 0, 0, 0, 1, .iconst 1), (2, 1, 0, 0, 0, 0, .iadd), (3, 1, 0, 0, 0, 0, .istore_n 3)] cs ss L st h) : G Thinning_nextWithLevel d mc ms cs ss 0 L st h Q := G.run (by decide +kernel) hw
theorem B_Thinning_nextWithLevel_4 {d mc ms cs ss : Nat} {L : List (Option Value)} {st : List Value} {h : g_H} {Q : g_Po} (hw : g_wp Thinning_nextWithLevel d mc ms Q 9 [(4, 1, 0, 0, 0, 0, .iload_n 3), (5, 1, 0, 0, 0, 0, .iload_n 2), (6, 3, 25, 0, 0, 0, .if_icmp .ge 19)] cs ss L st h) : G Thinning_nextWithLevel d mc ms cs ss 4 L st h Q := G.run (by decide +kernel) hw
theorem B_Thinning_nextWithLevel_9 {d mc ms cs ss : Nat} {L : List (Option Value)} {st : List Value} {h : g_H} {Q : g_Po} (hw : g_wp Thinning_nextWithLevel d mc ms Q 14 [(9, 1, 0, 0, 0, 0, .aload_n 0), (10, 1, 0, 0, 0, 0, .iload_n 3), (11, 3, 49, 4, 2207, 1, .invokevirtual 41)] cs ss L st h) : G Thinning_nextWithLevel d mc ms cs ss 9 L st h Q := G.run (by decide +kernel) hw
theorem B_Thinning_nextWithLevel_14 {d mc ms cs ss : Nat} {L : List (Option Value)} {st : List Value} {h : g_H} {Q : g_Po} (hw : g_wp Thinning_nextWithLevel d mc ms Q 19 [(14, 2, 0, 0, 0, (-2), .bipush (-2)), (16, 3, 25, 0, 0, 0, .if_icmp .ne 9)] cs ss L st h) : G Thinning_nextWithLevel d mc ms cs ss 14 L st h Q := G.run (by decide +kernel) hw
theorem B_Thinning_nextWithLevel_19 {d mc ms cs ss : Nat} {L : List (Option Value)} {st : List Value} {h : g_H} {Q : g_Po} (hw : g_wp Thinning_nextWithLevel d mc ms Q 25 [(19, 3, 0, 0, 0, 1, .iinc 3 1), (22, 3, 4, 0, 0, 0, .goto (-18))] cs ss L st h) : G Thinning_nextWithLevel d mc ms cs ss 19 L st h Q := G.run (by decide +kernel) hw
theorem B_Thinning_nextWithLevel_25 {d mc ms cs ss : Nat} {L : List (Option Value)} {st : List Value} {h : g_H} {Q : g_Po} (hw : g_wp Thinning_nextWithLevel d mc ms Q 27 [(25, 1, 0, 0, 0, 0, .iload_n 3), (26, 1, 0, 0, 0, 0, .ireturn)] cs ss L st h) : G Thinning_nextWithLevel d mc ms cs ss 25 L st h Q := G.run (by decide +kernel) hw
/-! blocks of Thinning_farthestFromFirst -/
theorem ml_Thinning_farthestFromFirst : (g_m Thinning_farthestFromFirst).2.2.1 = 5 := rfl
theorem rt_Thinning_farthestFromFirst : (g_m Thinning_farthestFromFirst).2.2.2.1 = (some .int) := rfl
theorem B_Thinning_farthestFromFirst_0 {d mc ms cs ss : Nat} {L : List (Option Value)} {st : List Value} {h : g_H} {Q : g_Po} (hw : g_wp Thinning_farthestFromFirst d mc ms Q 6 [(0, 1, 0, 0, 0, 0, .iconst 0), (1, 1, 0, 0, 0, 0, .istore_n 1), (2, 1, 0, 0, 0, 0, .iconst 0), (3, 1, 0, 0, 0, 0, .istore_n 2), (4, 1, 0, 0, 0, 1, .iconst 1), (5, 1, 0, 0, 0, 0, .istore_n 3)] cs ss L st h) : G Thinning_farthestFromFirst d mc ms cs ss 0 L st h Q := G.run (by decide +kernel) hw
theorem B_Thinning_farthestFromFirst_6 {d mc ms cs ss : Nat} {L : List (Option Value)} {st : List Value} {h : g_H} {Q : g_Po} (hw : g_wp Thinning_farthestFromFirst d mc ms Q 14 [(6, 1, 0, 0, 0, 0, .iload_n 3), (7, 1, 0, 0, 0, 0, .aload_n 0), (8, 3, 2, 1, 1037, 0, .getfield 57), (11, 3, 45, 0, 0, 0, .if_icmp .ge 34)] cs ss L st h) : G Thinning_farthestFromFirst d mc ms cs ss 6 L st h Q := G.run (by decide +kernel) hw
theorem B_Thinning_farthestFromFirst_14 {d mc ms cs ss : Nat} {L : List (Option Value)} {st : List Value} {h : g_H} {Q : g_Po} (hw : g_wp Thinning_farthestFromFirst d mc ms Q 18 [(14, 1, 0, 0, 0, 0, .aload_n 0), (15, 3, 39, 2, 2200, 0, .invokevirtual 75)] cs ss L st h) : G Thinning_farthestFromFirst d mc ms cs ss 14 L st h Q := G.run (by decide +kernel) hw
theorem B_Thinning_farthestFromFirst_18 {d mc ms cs ss : Nat} {L : List (Option Value)} {st : List Value} {h : g_H} {Q : g_Po} (hw : g_wp Thinning_farthestFromFirst d mc ms Q 23 [(18, 1, 0, 0, 0, 0, .aload_n 0), (19, 1, 0, 0, 0, 0, .iload_n 3), (20, 3, 33, 2, 2201, 1, .invokevirtual 61)] cs ss L st h) : G Thinning_farthestFromFirst d mc ms cs ss 18 L st h Q := G.run (by decide +kernel) hw
theorem B_Thinning_farthestFromFirst_23 {d mc ms cs ss : Nat} {L : List (Option Value)} {st : List Value} {h : g_H} {Q : g_Po} (hw : g_wp Thinning_farthestFromFirst d mc ms Q 26 [(23, 3, 28, 0, 2202, 2, .invokestatic 78)] cs ss L st h) : G Thinning_farthestFromFirst d mc ms cs ss 23 L st h Q := G.run (by decide +kernel) hw
theorem B_Thinning_farthestFromFirst_26 {d mc ms cs ss : Nat} {L : List (Option Value)} {st : List Value} {h : g_H} {Q : g_Po} (hw : g_wp Thinning_farthestFromFirst d mc ms Q 34 [(26, 2, 0, 0, 0, 0, .istore 4), (28, 2, 0, 0, 0, 0, .iload 4), (30, 1, 0, 0, 0, 0, .iload_n 2), (31, 3, 39, 0, 0, 0, .if_icmp .le 8)] cs ss L st h) : G Thinning_farthestFromFirst d mc ms cs ss 26 L st h Q := G.run (by decide +kernel) hw
theorem B_Thinning_farthestFromFirst_34 {d mc ms cs ss : Nat} {L : List (Option Value)} {st : List Value} {h : g_H} {Q : g_Po} (hw : g_wp Thinning_farthestFromFirst d mc ms Q 39 [(34, 2, 0, 0, 0, 0, .iload 4), (36, 1, 0, 0, 0, 0, .istore_n 2), (37, 1, 0, 0, 0, 0, .iload_n 3), (38, 1, 0, 0, 0, 0, .istore_n 1)] cs ss L st h) : G Thinning_farthestFromFirst d mc ms cs ss 34 L st h Q := G.run (by decide +kernel) hw
theorem B_Thinning_farthestFromFirst_39 {d mc ms cs ss : Nat} {L : List (Option Value)} {st : List Value} {h : g_H} {Q : g_Po} (hw : g_wp Thinning_farthestFromFirst d mc ms Q 45 [(39, 3, 0, 0, 0, 1, .iinc 3 1), (42, 3, 6, 0, 0, 0, .goto (-36))] cs ss L st h) : G Thinning_farthestFromFirst d mc ms cs ss 39 L st h Q := G.run (by decide +kernel) hw
theorem B_Thinning_farthestFromFirst_45 {d mc ms cs ss : Nat} {L : List (Option Value)} {st : List Value} {h : g_H} {Q : g_Po} (hw : g_wp Thinning_farthestFromFirst d mc ms Q 47 [(45, 1, 0, 0, 0, 0, .iload_n 1), (46, 1, 0, 0, 0, 0, .ireturn)] cs ss L st h) : G Thinning_farthestFromFirst d mc ms cs ss 45 L st h Q := G.run (by decide +kernel) hw
/-! blocks of Thinning_farthestBetween -/
theorem ml_Thinning_farthestBetween : (g_m Thinning_farthestBetween).2.2.1 = 9 := rfl
theorem rt_Thinning_farthestBetween : (g_m Thinning_farthestBetween).2.2.2.1 = (some .int) := rfl
theorem B_Thinning_farthestBetween_0 {d mc ms cs ss : Nat} {L : List (Option Value)} {st : List Value} {h : g_H} {Q : g_Po} (hw : g_wp Thinning_farthestBetween d mc ms Q 13 [(0, 2, 0, 0, 0, (-6), .bipush (-6)), (2, 1, 0, 0, 0, 0, .istore_n 3), (3, 3, 0, 0, 2214, (-1), .ldc2_w 83), (6, 2, 0, 0, 0, 0, .lstore 4), (8, 1, 0, 0, 0, 0, .iload_n 1), (9, 1, 0, 0, 0, 1, .iconst 1), (10, 1, 0, 0, 0, 0, .iadd), (11, 2, 0, 0, 0, 0, .istore 6)] cs ss L st h) : G Thinning_farthestBetween d mc ms cs ss 0 L st h Q := G.run (by decide +kernel) hw
theorem B_Thinning_farthestBetween_13 {d mc ms cs ss : Nat} {L : List (Option Value)} {st : List Value} {h : g_H} {Q : g_Po} (hw : g_wp Thinning_farthestBetween d mc ms Q 19 [(13, 2, 0, 0, 0, 0, .iload 6), (15, 1, 0, 0, 0, 0, .iload_n 2), (16, 3, 61, 0, 0, 0, .if_icmp .ge 45)] cs ss L st h) : G Thinning_farthestBetween d mc ms cs ss 13 L st h Q := G.run (by decide +kernel) hw
theorem B_Thinning_farthestBetween_19 {d mc ms cs ss : Nat} {L : List (Option Value)} {st : List Value} {h : g_H} {Q : g_Po} (hw : g_wp Thinning_farthestBetween d mc ms Q 24 [(19, 1, 0, 0, 0, 0, .aload_n 0), (20, 1, 0, 0, 0, 0, .iload_n 1), (21, 3, 33, 2, 2201, 1, .invokevirtual 61)] cs ss L st h) : G Thinning_farthestBetween d mc ms cs ss 19 L st h Q := G.run (by decide +kernel) hw
theorem B_Thinning_farthestBetween_24 {d mc ms cs ss : Nat} {L : List (Option Value)} {st : List Value} {h : g_H} {Q : g_Po} (hw : g_wp Thinning_farthestBetween d mc ms Q 29 [(24, 1, 0, 0, 0, 0, .aload_n 0), (25, 1, 0, 0, 0, 0, .iload_n 2), (26, 3, 41, 2, 2215, 1, .invokevirtual 85)] cs ss L st h) : G Thinning_farthestBetween d mc ms cs ss 24 L st h Q := G.run (by decide +kernel) hw
theorem B_Thinning_farthestBetween_29 {d mc ms cs ss : Nat} {L : List (Option Value)} {st : List Value} {h : g_H} {Q : g_Po} (hw : g_wp Thinning_farthestBetween d mc ms Q 35 [(29, 1, 0, 0, 0, 0, .aload_n 0), (30, 2, 0, 0, 0, 0, .iload 6), (32, 3, 33, 2, 2201, 1, .invokevirtual 61)] cs ss L st h) : G Thinning_farthestBetween d mc ms cs ss 29 L st h Q := G.run (by decide +kernel) hw
theorem B_Thinning_farthestBetween_35 {d mc ms cs ss : Nat} {L : List (Option Value)} {st : List Value} {h : g_H} {Q : g_Po} (hw : g_wp Thinning_farthestBetween d mc ms Q 38 [(35, 3, 54, 0, 2216, 3, .invokestatic 88)] cs ss L st h) : G Thinning_farthestBetween d mc ms cs ss 35 L st h Q := G.run (by decide +kernel) hw
theorem B_Thinning_farthestBetween_38 {d mc ms cs ss : Nat} {L : List (Option Value)} {st : List Value} {h : g_H} {Q : g_Po} (hw : g_wp Thinning_farthestBetween d mc ms Q 48 [(38, 2, 0, 0, 0, 0, .lstore 7), (40, 2, 0, 0, 0, 0, .lload 7), (42, 2, 0, 0, 0, 0, .lload 4), (44, 1, 0, 0, 0, 0, .lcmp), (45, 3, 55, 0, 0, 0, .ifCond .le 10)] cs ss L st h) : G Thinning_farthestBetween d mc ms cs ss 38 L st h Q := G.run (by decide +kernel) hw
theorem B_Thinning_farthestBetween_48 {d mc ms cs ss : Nat} {L : List (Option Value)} {st : List Value} {h : g_H} {Q : g_Po} (hw : g_wp Thinning_farthestBetween d mc ms Q 55 [(48, 2, 0, 0, 0, 0, .lload 7), (50, 2, 0, 0, 0, 0, .lstore 4), (52, 2, 0, 0, 0, 0, .iload 6), (54, 1, 0, 0, 0, 0, .istore_n 3)] cs ss L st h) : G Thinning_farthestBetween d mc ms cs ss 48 L st h Q := G.run (by decide +kernel) hw
theorem B_Thinning_farthestBetween_55 {d mc ms cs ss : Nat} {L : List (Option Value)} {st : List Value} {h : g_H} {Q : g_Po} (hw : g_wp Thinning_farthestBetween d mc ms Q 61 [(55, 3, 0, 0, 0, 1, .iinc 6 1), (58, 3, 13, 0, 0, 0, .goto (-45))] cs ss L st h) : G Thinning_farthestBetween d mc ms cs ss 55 L st h Q := G.run (by decide +kernel) hw
theorem B_Thinning_farthestBetween_61 {d mc ms cs ss : Nat} {L : List (Option Value)} {st : List Value} {h : g_H} {Q : g_Po} (hw : g_wp Thinning_farthestBetween d mc ms Q 63 [(61, 1, 0, 0, 0, 0, .iload_n 3), (62, 1, 0, 0, 0, 0, .ireturn)] cs ss L st h) : G Thinning_farthestBetween d mc ms cs ss 61 L st h Q := G.run (by decide +kernel) hw
/-! blocks of Thinning_squaredOffset -/
theorem ml_Thinning_squaredOffset : (g_m Thinning_squaredOffset).2.2.1 = 5 := rfl
theorem rt_Thinning_squaredOffset : (g_m Thinning_squaredOffset).2.2.2.1 = (some .long) := rfl
theorem B_Thinning_squaredOffset_0 {d mc ms cs ss : Nat} {L : List (Option Value)} {st : List Value} {h : g_H} {Q : g_Po} (hw : g_wp Thinning_squaredOffset d mc ms Q 5 [(0, 1, 0, 0, 0, 0, .iload_n 0), (1, 1, 0, 0, 0, 0, .iload_n 1), (2, 3, 12, 0, 0, 0, .if_icmp .ne 10)] cs ss L st h) : G Thinning_squaredOffset d mc ms cs ss 0 L st h Q := G.run (by decide +kernel) hw
theorem B_Thinning_squaredOffset_5 {d mc ms cs ss : Nat} {L : List (Option Value)} {st : List Value} {h : g_H} {Q : g_Po} (hw : g_wp Thinning_squaredOffset d mc ms Q 10 [(5, 1, 0, 0, 0, 0, .iload_n 0), (6, 1, 0, 0, 0, 0, .iload_n 2), (7, 3, 28, 0, 2202, 2, .invokestatic 78)] cs ss L st h) : G Thinning_squaredOffset d mc ms cs ss 5 L st h Q := G.run (by decide +kernel) hw
theorem B_Thinning_squaredOffset_10 {d mc ms cs ss : Nat} {L : List (Option Value)} {st : List Value} {h : g_H} {Q : g_Po} (hw : g_wp Thinning_squaredOffset d mc ms Q 12 [(10, 1, 0, 0, 0, 0, .i2l), (11, 1, 0, 0, 0, 0, .lreturn)] cs ss L st h) : G Thinning_squaredOffset d mc ms cs ss 10 L st h Q := G.run (by decide +kernel) hw
theorem B_Thinning_squaredOffset_12 {d mc ms cs ss : Nat} {L : List (Option Value)} {st : List Value} {h : g_H} {Q : g_Po} (hw : g_wp Thinning_squaredOffset d mc ms Q 18 [(12, 1, 0, 0, 0, 0, .iload_n 0), (13, 1, 0, 0, 0, 0, .iload_n 1), (14, 1, 0, 0, 0, 0, .iload_n 2), (15, 3, 29, 0, 2219, 3, .invokestatic 92)] cs ss L st h) : G Thinning_squaredOffset d mc ms cs ss 12 L st h Q := G.run (by decide +kernel) hw
theorem B_Thinning_squaredOffset_18 {d mc ms cs ss : Nat} {L : List (Option Value)} {st : List Value} {h : g_H} {Q : g_Po} (hw : g_wp Thinning_squaredOffset d mc ms Q 24 [(18, 1, 0, 0, 0, 0, .i2l), (19, 1, 0, 0, 0, 0, .lstore_n 3), (20, 1, 0, 0, 0, 0, .lload_n 3), (21, 1, 0, 0, 0, 0, .lload_n 3), (22, 1, 0, 0, 0, 0, .lmul), (23, 1, 0, 0, 0, 0, .lreturn)] cs ss L st h) : G Thinning_squaredOffset d mc ms cs ss 18 L st h Q := G.run (by decide +kernel) hw
/-! blocks of Thinning_scale -/
theorem ml_Thinning_scale : (g_m Thinning_scale).2.2.1 = 2 := rfl
theorem rt_Thinning_scale : (g_m Thinning_scale).2.2.2.1 = (some .long) := rfl
theorem B_Thinning_scale_0 {d mc ms cs ss : Nat} {L : List (Option Value)} {st : List Value} {h : g_H} {Q : g_Po} (hw : g_wp Thinning_scale d mc ms Q 5 [(0, 1, 0, 0, 0, 0, .iload_n 0), (1, 1, 0, 0, 0, 0, .iload_n 1), (2, 3, 9, 0, 0, 0, .if_icmp .ne 7)] cs ss L st h) : G Thinning_scale d mc ms cs ss 0 L st h Q := G.run (by decide +kernel) hw
theorem B_Thinning_scale_5 {d mc ms cs ss : Nat} {L : List (Option Value)} {st : List Value} {h : g_H} {Q : g_Po} (hw : g_wp Thinning_scale d mc ms Q 9 [(5, 1, 0, 0, 0, 0, .lconst 1), (6, 3, 15, 0, 0, 0, .goto 9)] cs ss L st h) : G Thinning_scale d mc ms cs ss 5 L st h Q := G.run (by decide +kernel) hw
theorem B_Thinning_scale_9 {d mc ms cs ss : Nat} {L : List (Option Value)} {st : List Value} {h : g_H} {Q : g_Po} (hw : g_wp Thinning_scale d mc ms Q 14 [(9, 1, 0, 0, 0, 0, .iload_n 0), (10, 1, 0, 0, 0, 0, .iload_n 1), (11, 3, 28, 0, 2202, 2, .invokestatic 78)] cs ss L st h) : G Thinning_scale d mc ms cs ss 9 L st h Q := G.run (by decide +kernel) hw
theorem B_Thinning_scale_14 {d mc ms cs ss : Nat} {L : List (Option Value)} {st : List Value} {h : g_H} {Q : g_Po} (hw : g_wp Thinning_scale d mc ms Q 15 [(14, 1, 0, 0, 0, 0, .i2l)] cs ss L st h) : G Thinning_scale d mc ms cs ss 14 L st h Q := G.run (by decide +kernel) hw
theorem B_Thinning_scale_15 {d mc ms cs ss : Nat} {L : List (Option Value)} {st : List Value} {h : g_H} {Q : g_Po} (hw : g_wp Thinning_scale d mc ms Q 16 [(15, 1, 0, 0, 0, 0, .lreturn)] cs ss L st h) : G Thinning_scale d mc ms cs ss 15 L st h Q := G.run (by decide +kernel) hw
/-! blocks of Thinning_ownLevel -/
theorem ml_Thinning_ownLevel : (g_m Thinning_ownLevel).2.2.1 = 8 := rfl
theorem rt_Thinning_ownLevel : (g_m Thinning_ownLevel).2.2.2.1 = (some .int) := rfl
theorem B_Thinning_ownLevel_0 {d mc ms cs ss : Nat} {L : List (Option Value)} {st : List Value} {h : g_H} {Q : g_Po} (hw : g_wp Thinning_ownLevel d mc ms Q 5 [(0, 1, 0, 0, 0, 0, .aload_n 0), (1, 1, 0, 0, 0, 0, .iload_n 1), (2, 3, 33, 2, 2201, 1, .invokevirtual 61)] cs ss L st h) : G Thinning_ownLevel d mc ms cs ss 0 L st h Q := G.run (by decide +kernel) hw
theorem B_Thinning_ownLevel_5 {d mc ms cs ss : Nat} {L : List (Option Value)} {st : List Value} {h : g_H} {Q : g_Po} (hw : g_wp Thinning_ownLevel d mc ms Q 10 [(5, 1, 0, 0, 0, 0, .aload_n 0), (6, 1, 0, 0, 0, 0, .iload_n 2), (7, 3, 41, 2, 2215, 1, .invokevirtual 85)] cs ss L st h) : G Thinning_ownLevel d mc ms cs ss 5 L st h Q := G.run (by decide +kernel) hw
theorem B_Thinning_ownLevel_10 {d mc ms cs ss : Nat} {L : List (Option Value)} {st : List Value} {h : g_H} {Q : g_Po} (hw : g_wp Thinning_ownLevel d mc ms Q 15 [(10, 1, 0, 0, 0, 0, .aload_n 0), (11, 1, 0, 0, 0, 0, .iload_n 3), (12, 3, 33, 2, 2201, 1, .invokevirtual 61)] cs ss L st h) : G Thinning_ownLevel d mc ms cs ss 10 L st h Q := G.run (by decide +kernel) hw
theorem B_Thinning_ownLevel_15 {d mc ms cs ss : Nat} {L : List (Option Value)} {st : List Value} {h : g_H} {Q : g_Po} (hw : g_wp Thinning_ownLevel d mc ms Q 18 [(15, 3, 54, 0, 2216, 3, .invokestatic 88)] cs ss L st h) : G Thinning_ownLevel d mc ms cs ss 15 L st h Q := G.run (by decide +kernel) hw
theorem B_Thinning_ownLevel_18 {d mc ms cs ss : Nat} {L : List (Option Value)} {st : List Value} {h : g_H} {Q : g_Po} (hw : g_wp Thinning_ownLevel d mc ms Q 25 [(18, 2, 0, 0, 0, 0, .lstore 4), (20, 1, 0, 0, 0, 0, .aload_n 0), (21, 1, 0, 0, 0, 0, .iload_n 1), (22, 3, 33, 2, 2201, 1, .invokevirtual 61)] cs ss L st h) : G Thinning_ownLevel d mc ms cs ss 18 L st h Q := G.run (by decide +kernel) hw
theorem B_Thinning_ownLevel_25 {d mc ms cs ss : Nat} {L : List (Option Value)} {st : List Value} {h : g_H} {Q : g_Po} (hw : g_wp Thinning_ownLevel d mc ms Q 30 [(25, 1, 0, 0, 0, 0, .aload_n 0), (26, 1, 0, 0, 0, 0, .iload_n 2), (27, 3, 41, 2, 2215, 1, .invokevirtual 85)] cs ss L st h) : G Thinning_ownLevel d mc ms cs ss 25 L st h Q := G.run (by decide +kernel) hw
theorem B_Thinning_ownLevel_30 {d mc ms cs ss : Nat} {L : List (Option Value)} {st : List Value} {h : g_H} {Q : g_Po} (hw : g_wp Thinning_ownLevel d mc ms Q 33 [(30, 3, 55, 0, 2224, 2, .invokestatic 96)] cs ss L st h) : G Thinning_ownLevel d mc ms cs ss 30 L st h Q := G.run (by decide +kernel) hw
theorem B_Thinning_ownLevel_33 {d mc ms cs ss : Nat} {L : List (Option Value)} {st : List Value} {h : g_H} {Q : g_Po} (hw : g_wp Thinning_ownLevel d mc ms Q 42 [(33, 2, 0, 0, 0, 0, .lstore 6), (35, 2, 0, 0, 0, 0, .lload 4), (37, 1, 0, 0, 0, 0, .lconst 0), (38, 1, 0, 0, 0, 0, .lcmp), (39, 3, 49, 0, 0, 0, .ifCond .le 10)] cs ss L st h) : G Thinning_ownLevel d mc ms cs ss 33 L st h Q := G.run (by decide +kernel) hw
theorem B_Thinning_ownLevel_42 {d mc ms cs ss : Nat} {L : List (Option Value)} {st : List Value} {h : g_H} {Q : g_Po} (hw : g_wp Thinning_ownLevel d mc ms Q 49 [(42, 2, 0, 0, 0, 0, .lload 6), (44, 1, 0, 0, 0, 0, .lconst 0), (45, 1, 0, 0, 0, 0, .lcmp), (46, 3, 51, 0, 0, 0, .ifCond .gt 5)] cs ss L st h) : G Thinning_ownLevel d mc ms cs ss 42 L st h Q := G.run (by decide +kernel) hw
theorem B_Thinning_ownLevel_49 {d mc ms cs ss : Nat} {L : List (Option Value)} {st : List Value} {h : g_H} {Q : g_Po} (hw : g_wp Thinning_ownLevel d mc ms Q 51 [(49, 1, 0, 0, 0, (-1), .iconst (-1)), (50, 1, 0, 0, 0, 0, .ireturn)] cs ss L st h) : G Thinning_ownLevel d mc ms cs ss 49 L st h Q := G.run (by decide +kernel) hw
theorem B_Thinning_ownLevel_51 {d mc ms cs ss : Nat} {L : List (Option Value)} {st : List Value} {h : g_H} {Q : g_Po} (hw : g_wp Thinning_ownLevel d mc ms Q 64 [(51, 3, 0, 0, 0, 200, .sipush 200), (54, 2, 0, 0, 0, 0, .lload 4), (56, 1, 0, 0, 0, 0, .lconst 1), (57, 1, 0, 0, 0, 0, .lsub), (58, 2, 0, 0, 0, 0, .lload 6), (60, 1, 0, 0, 0, 0, .ldiv), (61, 3, 31, 0, 2227, 1, .invokestatic 100)] cs ss L st h) : G Thinning_ownLevel d mc ms cs ss 51 L st h Q := G.run (by decide +kernel) hw
theorem B_Thinning_ownLevel_64 {d mc ms cs ss : Nat} {L : List (Option Value)} {st : List Value} {h : g_H} {Q : g_Po} (hw : g_wp Thinning_ownLevel d mc ms Q 68 [(64, 3, 9994, 0, 2220, 2, .invokestatic 45), (67, 1, 0, 0, 0, 0, .ireturn)] cs ss L st h) : G Thinning_ownLevel d mc ms cs ss 64 L st h Q := G.run (by decide +kernel) hw
theorem Thn_level_c {d a i : Nat} {g : Nat → Int} {h : g_H} {Q : g_Po} (ha : thn h a g) (hi : i < 31) (hQ : Q (some (.int (I (g i)))) h) : Call Thinning_levelOf d 0 0 [.ref a, .int (I (i : Int))] h Q := by
  obtain ⟨q1, q2, q3⟩ := ha
  refine Call.intro (by rfl) (Nat.le_of_ble_eq_true rfl) ?_
  refine G.eqL (L := [some (.ref _), some (.int _)]) rfl ?_
  refine B_Thinning_levelOf_0 ?_
  simp only [wp_cons, wp_nil, List.getElem?_cons_zero, List.getElem?_cons_succ, List.set_cons_zero, List.set_cons_succ, s_iload_n1, ldI_s, s_ifCond_lt, p1_s, true_and, and_true, Nat.le_refl, true_implies, forall_const, not_false_eq_true, false_implies, not_true_eq_false, reduceCtorEq, tl_s, tl_n, rf_s, List.cons_append, List.nil_append, true_or, or_true, q1, q2]
  refine b_lt (by omega) (by omega) (fun cc => absurd cc (by omega)) (fun cc => ?_)
  refine B_Thinning_levelOf_4 ?_
  simp only [wp_cons, wp_nil, List.getElem?_cons_zero, List.getElem?_cons_succ, List.set_cons_zero, List.set_cons_succ, s_iload_n1, ldI_s, s_aload_n0, ldA_r, ldA_n, ldA_s, s_getfield, pR_s, ob_s, gt_s, s_arraylength, al_0, al_1, al_2, al_3, s_if_icmp_ge, p2_s, true_and, and_true, Nat.le_refl, true_implies, forall_const, not_false_eq_true, false_implies, not_true_eq_false, reduceCtorEq, tl_s, tl_n, rf_s, List.cons_append, List.nil_append, true_or, or_true, q1, q2]
  refine b_le (by omega) (by omega) (fun cc => absurd cc (by omega)) (fun cc => ?_)
  refine B_Thinning_levelOf_13 ?_
  simp only [wp_cons, wp_nil, List.getElem?_cons_zero, List.getElem?_cons_succ, List.set_cons_zero, List.set_cons_succ, s_aload_n0, ldA_r, ldA_n, ldA_s, s_getfield, pR_s, ob_s, gt_s, s_iload_n1, ldI_s, s_iaload, iR_s, ia_s, s_goto, true_and, and_true, Nat.le_refl, true_implies, forall_const, not_false_eq_true, false_implies, not_true_eq_false, reduceCtorEq, tl_s, tl_n, rf_s, List.cons_append, List.nil_append, true_or, or_true, q1, q2]
  refine ⟨i, by omega, rfl, ?_⟩
  refine B_Thinning_levelOf_23 ?_
  simp only [wp_cons, wp_nil, List.getElem?_cons_zero, List.getElem?_cons_succ, List.set_cons_zero, List.set_cons_succ, s_ireturn, p1_s, rI_i, rI_z, rI_c, z_01, z_11, rt_Thinning_levelOf, true_and, and_true, Nat.le_refl, true_implies, forall_const, not_false_eq_true, false_implies, not_true_eq_false, reduceCtorEq, tl_s, tl_n, rf_s, List.cons_append, List.nil_append, true_or, or_true, q1, q2]
  exact hQ
theorem Thn_set_c {d a i : Nat} {v : Int} {g : Nat → Int} {h : g_H} {Q : g_Po} (ha : thn h a g) (hi : i < 31) (hv : -2 ≤ v ∧ v ≤ 200) (hQ : ∀ h', chg a (a + 2) h h' → thn h' a (ui g i v) → Q none h') : Call Thinning_setLevel d 0 0 [.ref a, .int (I (i : Int)), .int (I v)] h Q := by
  obtain ⟨q1, q2, q3⟩ := id ha
  refine Call.intro (by rfl) (Nat.le_of_ble_eq_true rfl) ?_
  refine G.eqL (L := [some (.ref _), some (.int _), some (.int _)]) rfl ?_
  refine B_Thinning_setLevel_0 ?_
  simp only [wp_cons, wp_nil, List.getElem?_cons_zero, List.getElem?_cons_succ, List.set_cons_zero, List.set_cons_succ, s_iload_n1, ldI_s, s_ifCond_lt, p1_s, true_and, and_true, Nat.le_refl, true_implies, forall_const, not_false_eq_true, false_implies, not_true_eq_false, reduceCtorEq, tl_s, tl_n, rf_s, List.cons_append, List.nil_append, true_or, or_true, q1, q2]
  refine b_lt (by omega) (by omega) (fun cc => absurd cc (by omega)) (fun cc => ?_)
  refine B_Thinning_setLevel_4 ?_
  simp only [wp_cons, wp_nil, List.getElem?_cons_zero, List.getElem?_cons_succ, List.set_cons_zero, List.set_cons_succ, s_iload_n1, ldI_s, s_aload_n0, ldA_r, ldA_n, ldA_s, s_getfield, pR_s, ob_s, gt_s, s_arraylength, al_0, al_1, al_2, al_3, s_if_icmp_ge, p2_s, true_and, and_true, Nat.le_refl, true_implies, forall_const, not_false_eq_true, false_implies, not_true_eq_false, reduceCtorEq, tl_s, tl_n, rf_s, List.cons_append, List.nil_append, true_or, or_true, q1, q2]
  refine b_le (by omega) (by omega) (fun cc => absurd cc (by omega)) (fun cc => ?_)
  refine B_Thinning_setLevel_13 ?_
  simp only [wp_cons, wp_nil, List.getElem?_cons_zero, List.getElem?_cons_succ, List.set_cons_zero, List.set_cons_succ, s_aload_n0, ldA_r, ldA_n, ldA_s, s_getfield, pR_s, ob_s, gt_s, s_iload_n1, ldI_s, s_iload_n2, s_iastore, iiR_s, ia_s, true_and, and_true, Nat.le_refl, true_implies, forall_const, not_false_eq_true, false_implies, not_true_eq_false, reduceCtorEq, tl_s, tl_n, rf_s, List.cons_append, List.nil_append, true_or, or_true, q1, q2]
  refine ⟨i, by omega, rfl, ?_⟩
  refine B_Thinning_setLevel_20 ?_
  simp only [wp_cons, wp_nil, List.getElem?_cons_zero, List.getElem?_cons_succ, List.set_cons_zero, List.set_cons_succ, s_return_, rt_Thinning_setLevel, true_and, and_true, Nat.le_refl, true_implies, forall_const, not_false_eq_true, false_implies, not_true_eq_false, reduceCtorEq, tl_s, tl_n, rf_s, List.cons_append, List.nil_append, true_or, or_true, q1, q2]
  exact hQ _ (chg.set _ (by omega)) (ha.st hv)
theorem Thn_next_l {d a x b e : Nat} {g : Nat → Int} {h : g_H} {Q : g_Po} (d1 : 1 ≤ d) (ha : thn h a g) (hb : b ≤ e) (he : e < 31) (hx : ∀ j, x < j → j < b → g j = -2) (hgb : b < e → g b ≠ -2) (hQ : Q (some (.int (I (b : Int)))) h) : ∀ (m i : Nat), i + m = b → x < i →
    G Thinning_nextWithLevel d 0 0 0 0 4 [some (.ref a), some (.int (I (x : Int))), some (.int (I (e : Int))), some (.int (I (i : Int)))] [] h Q := by
  obtain ⟨q1, q2, q3⟩ := id ha
  intro m
  induction m with
  | zero =>
    intro i hi hxi
    have e0 : i = b := by omega
    subst e0
    by_cases c : i < e
    · have := q3 i (by omega)
      have := hgb c
      refine B_Thinning_nextWithLevel_4 ?_
      simp only [wp_cons, wp_nil, List.getElem?_cons_zero, List.getElem?_cons_succ, List.set_cons_zero, List.set_cons_succ, s_iload_n3, ldI_s, s_iload_n2, s_if_icmp_ge, p2_s, true_and, and_true, Nat.le_refl, true_implies, forall_const, not_false_eq_true, false_implies, not_true_eq_false, reduceCtorEq, tl_s, tl_n, rf_s, List.cons_append, List.nil_append, true_or, or_true, q1, q2]
      refine b_le (by omega) (by omega) (fun cc => absurd cc (by omega)) (fun cc => ?_)
      refine B_Thinning_nextWithLevel_9 ?_
      simp only [wp_cons, wp_nil, List.getElem?_cons_zero, List.getElem?_cons_succ, List.set_cons_zero, List.set_cons_succ, s_aload_n0, ldA_r, ldA_n, ldA_s, s_iload_n3, ldI_s, s_invokevirtual, rc_s, ob_s, List.drop_succ_cons, List.drop_zero, List.take_succ_cons, List.take_zero, List.reverse_cons, List.reverse_nil, List.nil_append, List.cons_append, List.length_cons, List.length_nil, d1, Int.reduceToNat, Nat.reduceAdd, Nat.reduceLeDiff, true_and, and_true, Nat.le_refl, true_implies, forall_const, not_false_eq_true, false_implies, not_true_eq_false, reduceCtorEq, tl_s, tl_n, rf_s, true_or, or_true, q1, q2]
      refine Thn_level_c ha (by omega) ?_
      refine B_Thinning_nextWithLevel_14 ?_
      simp only [wp_cons, wp_nil, List.getElem?_cons_zero, List.getElem?_cons_succ, List.set_cons_zero, List.set_cons_succ, s_bipush, s_if_icmp_ne, p2_s, true_and, and_true, Nat.le_refl, true_implies, forall_const, not_false_eq_true, false_implies, not_true_eq_false, reduceCtorEq, tl_s, tl_n, rf_s, List.cons_append, List.nil_append, true_or, or_true, q1, q2]
      refine b_ne (by omega) (by omega) (fun cc => ?_) (fun cc => absurd cc (by omega))
      refine B_Thinning_nextWithLevel_25 ?_
      simp only [wp_cons, wp_nil, List.getElem?_cons_zero, List.getElem?_cons_succ, List.set_cons_zero, List.set_cons_succ, s_iload_n3, ldI_s, s_ireturn, p1_s, rI_i, rI_z, rI_c, z_01, z_11, rt_Thinning_nextWithLevel, true_and, and_true, Nat.le_refl, true_implies, forall_const, not_false_eq_true, false_implies, not_true_eq_false, reduceCtorEq, tl_s, tl_n, rf_s, List.cons_append, List.nil_append, true_or, or_true, q1, q2]
      exact hQ
    · refine B_Thinning_nextWithLevel_4 ?_
      simp only [wp_cons, wp_nil, List.getElem?_cons_zero, List.getElem?_cons_succ, List.set_cons_zero, List.set_cons_succ, s_iload_n3, ldI_s, s_iload_n2, s_if_icmp_ge, p2_s, true_and, and_true, Nat.le_refl, true_implies, forall_const, not_false_eq_true, false_implies, not_true_eq_false, reduceCtorEq, tl_s, tl_n, rf_s, List.cons_append, List.nil_append, true_or, or_true, q1, q2]
      refine b_le (by omega) (by omega) (fun cc => ?_) (fun cc => absurd cc (by omega))
      refine B_Thinning_nextWithLevel_25 ?_
      simp only [wp_cons, wp_nil, List.getElem?_cons_zero, List.getElem?_cons_succ, List.set_cons_zero, List.set_cons_succ, s_iload_n3, ldI_s, s_ireturn, p1_s, rI_i, rI_z, rI_c, z_01, z_11, rt_Thinning_nextWithLevel, true_and, and_true, Nat.le_refl, true_implies, forall_const, not_false_eq_true, false_implies, not_true_eq_false, reduceCtorEq, tl_s, tl_n, rf_s, List.cons_append, List.nil_append, true_or, or_true, q1, q2]
      exact hQ
  | succ m ih =>
    intro i hi hxi
    have := hx i (by omega) (by omega)
    refine B_Thinning_nextWithLevel_4 ?_
    simp only [wp_cons, wp_nil, List.getElem?_cons_zero, List.getElem?_cons_succ, List.set_cons_zero, List.set_cons_succ, s_iload_n3, ldI_s, s_iload_n2, s_if_icmp_ge, p2_s, true_and, and_true, Nat.le_refl, true_implies, forall_const, not_false_eq_true, false_implies, not_true_eq_false, reduceCtorEq, tl_s, tl_n, rf_s, List.cons_append, List.nil_append, true_or, or_true, q1, q2]
    refine b_le (by omega) (by omega) (fun cc => absurd cc (by omega)) (fun cc => ?_)
    refine B_Thinning_nextWithLevel_9 ?_
    simp only [wp_cons, wp_nil, List.getElem?_cons_zero, List.getElem?_cons_succ, List.set_cons_zero, List.set_cons_succ, s_aload_n0, ldA_r, ldA_n, ldA_s, s_iload_n3, ldI_s, s_invokevirtual, rc_s, ob_s, List.drop_succ_cons, List.drop_zero, List.take_succ_cons, List.take_zero, List.reverse_cons, List.reverse_nil, List.nil_append, List.cons_append, List.length_cons, List.length_nil, d1, Int.reduceToNat, Nat.reduceAdd, Nat.reduceLeDiff, true_and, and_true, Nat.le_refl, true_implies, forall_const, not_false_eq_true, false_implies, not_true_eq_false, reduceCtorEq, tl_s, tl_n, rf_s, true_or, or_true, q1, q2]
    refine Thn_level_c ha (by omega) ?_
    refine B_Thinning_nextWithLevel_14 ?_
    simp only [wp_cons, wp_nil, List.getElem?_cons_zero, List.getElem?_cons_succ, List.set_cons_zero, List.set_cons_succ, s_bipush, s_if_icmp_ne, p2_s, true_and, and_true, Nat.le_refl, true_implies, forall_const, not_false_eq_true, false_implies, not_true_eq_false, reduceCtorEq, tl_s, tl_n, rf_s, List.cons_append, List.nil_append, true_or, or_true, q1, q2]
    refine b_ne (by omega) (by omega) (fun cc => absurd cc (by omega)) (fun cc => ?_)
    refine B_Thinning_nextWithLevel_19 ?_
    simp only [wp_cons, wp_nil, List.getElem?_cons_zero, List.getElem?_cons_succ, List.set_cons_zero, List.set_cons_succ, s_iinc, ldI_s, s1_0, s1_s, kx_i, kx_r, kx_s, kx_n, kx_l, kx_0, I_add, s_goto, true_and, and_true, Nat.le_refl, true_implies, forall_const, not_false_eq_true, false_implies, not_true_eq_false, reduceCtorEq, tl_s, tl_n, rf_s, List.cons_append, List.nil_append, true_or, or_true, q1, q2]
    exact ih (i + 1) (by omega) (by omega)
theorem Thn_next_c {d a x b e : Nat} {g : Nat → Int} {h : g_H} {Q : g_Po} (d1 : 1 ≤ d) (ha : thn h a g) (hxb : x < b) (hb : b ≤ e) (he : e < 31) (hx : ∀ j, x < j → j < b → g j = -2) (hgb : b < e → g b ≠ -2) (hQ : Q (some (.int (I (b : Int)))) h) : Call Thinning_nextWithLevel d 0 0 [.ref a, .int (I (x : Int)), .int (I (e : Int))] h Q := by
  refine Call.intro (by rfl) (Nat.le_of_ble_eq_true rfl) ?_
  refine G.eqL (L := [some (.ref _), some (.int _), some (.int _), none]) rfl ?_
  refine B_Thinning_nextWithLevel_0 ?_
  simp only [wp_cons, wp_nil, List.getElem?_cons_zero, List.getElem?_cons_succ, List.set_cons_zero, List.set_cons_succ, s_iload_n1, ldI_s, s_iconst, s_iadd, p2_s, I_add, s_istore_n3, p1_s, s1_0, s1_s, kx_i, kx_r, kx_s, kx_n, kx_l, kx_0, true_and, and_true, Nat.le_refl, true_implies, forall_const, not_false_eq_true, false_implies, not_true_eq_false, reduceCtorEq, tl_s, tl_n, rf_s, List.cons_append, List.nil_append, true_or, or_true]
  exact Thn_next_l d1 ha hb he hx hgb hQ (b - (x + 1)) (x + 1) (by omega) (by omega)
theorem Thn_ff_l {d s : Nat} (d2 : 2 ≤ d) {S : Stk} {h : g_H} {Q : g_Po} (hs : stL h s S) (hp : stP S.1) (hQ : Q (some (.int (I (ffS S : Int)))) h) : ∀ (m i : Nat) (v : Nat) (u : Int) (x4 : Option Value), i + m = S.1.length → 1 ≤ i → v = ffb S.1 (i - 1) → u = sqd (pg S.1 0) (pg S.1 v) →
    G Thinning_farthestFromFirst d 0 0 0 0 6 [some (.ref s), some (.int (I (v : Int))), some (.int (I u)), some (.int (I (i : Int))), x4] [] h Q := by
  have d1 : 1 ≤ d := by omega
  have hb := hs.len
  obtain ⟨f, q1, q2, q3⟩ := id hs
  intro m
  induction m with
  | zero =>
    intro i v u x4 hi h1 hv hu
    refine B_Thinning_farthestFromFirst_6 ?_
    simp only [wp_cons, wp_nil, List.getElem?_cons_zero, List.getElem?_cons_succ, List.set_cons_zero, List.set_cons_succ, s_iload_n3, ldI_s, s_aload_n0, ldA_r, ldA_n, ldA_s, s_getfield, pR_s, ob_s, gt_s, s_if_icmp_ge, p2_s, true_and, and_true, Nat.le_refl, true_implies, forall_const, not_false_eq_true, false_implies, not_true_eq_false, reduceCtorEq, tl_s, tl_n, rf_s, List.cons_append, List.nil_append, true_or, or_true, q1.1]
    refine b_le (by omega) (by omega) (fun cc => ?_) (fun cc => absurd cc (by omega))
    refine B_Thinning_farthestFromFirst_45 ?_
    simp only [wp_cons, wp_nil, List.getElem?_cons_zero, List.getElem?_cons_succ, List.set_cons_zero, List.set_cons_succ, s_iload_n1, ldI_s, s_ireturn, p1_s, rI_i, rI_z, rI_c, z_01, z_11, rt_Thinning_farthestFromFirst, true_and, and_true, Nat.le_refl, true_implies, forall_const, not_false_eq_true, false_implies, not_true_eq_false, reduceCtorEq, tl_s, tl_n, rf_s, List.cons_append, List.nil_append, true_or, or_true, q1.1]
    rw [hv, show i - 1 = S.1.length - 1 by omega]
    exact hQ
  | succ m ih =>
    intro i v u x4 hi h1 hv hu
    have hvle : v ≤ i - 1 := hv ▸ ffb_le _ _
    have b0 := hp 0 (by omega)
    have b1 := hp i (by omega)
    have b2 := hp v (by omega)
    have b3 := sqd_bd b0 b1
    have b4 := sqd_bd b0 b2
    have hn : ffb S.1 i = if u < sqd (pg S.1 0) (pg S.1 i) then i else v := by
      obtain ⟨j, rfl⟩ : ∃ j, i = j + 1 := ⟨i - 1, by omega⟩
      rw [hu, hv]; rfl
    refine B_Thinning_farthestFromFirst_6 ?_
    simp only [wp_cons, wp_nil, List.getElem?_cons_zero, List.getElem?_cons_succ, List.set_cons_zero, List.set_cons_succ, s_iload_n3, ldI_s, s_aload_n0, ldA_r, ldA_n, ldA_s, s_getfield, pR_s, ob_s, gt_s, s_if_icmp_ge, p2_s, true_and, and_true, Nat.le_refl, true_implies, forall_const, not_false_eq_true, false_implies, not_true_eq_false, reduceCtorEq, tl_s, tl_n, rf_s, List.cons_append, List.nil_append, true_or, or_true, q1.1]
    refine b_le (by omega) (by omega) (fun cc => absurd cc (by omega)) (fun cc => ?_)
    refine B_Thinning_farthestFromFirst_14 ?_
    simp only [wp_cons, wp_nil, List.getElem?_cons_zero, List.getElem?_cons_succ, List.set_cons_zero, List.set_cons_succ, s_aload_n0, ldA_r, ldA_n, ldA_s, s_invokevirtual, rc_s, ob_s, List.drop_succ_cons, List.drop_zero, List.take_succ_cons, List.take_zero, List.reverse_cons, List.reverse_nil, List.nil_append, List.cons_append, List.length_cons, List.length_nil, d1, Int.reduceToNat, Nat.reduceAdd, Nat.reduceLeDiff, true_and, and_true, Nat.le_refl, true_implies, forall_const, not_false_eq_true, false_implies, not_true_eq_false, reduceCtorEq, tl_s, tl_n, rf_s, true_or, or_true, q1.1]
    refine Stroke_first_c (by omega) hs (by omega) ?_
    refine B_Thinning_farthestFromFirst_18 ?_
    simp only [wp_cons, wp_nil, List.getElem?_cons_zero, List.getElem?_cons_succ, List.set_cons_zero, List.set_cons_succ, s_aload_n0, ldA_r, ldA_n, ldA_s, s_iload_n3, ldI_s, s_invokevirtual, rc_s, ob_s, List.drop_succ_cons, List.drop_zero, List.take_succ_cons, List.take_zero, List.reverse_cons, List.reverse_nil, List.nil_append, List.cons_append, List.length_cons, List.length_nil, d1, Int.reduceToNat, Nat.reduceAdd, Nat.reduceLeDiff, true_and, and_true, Nat.le_refl, true_implies, forall_const, not_false_eq_true, false_implies, not_true_eq_false, reduceCtorEq, tl_s, tl_n, rf_s, true_or, or_true, q1.1]
    refine Stroke_at_c hs (by omega) ?_
    refine B_Thinning_farthestFromFirst_23 ?_
    simp only [wp_cons, wp_nil, List.getElem?_cons_zero, List.getElem?_cons_succ, List.set_cons_zero, List.set_cons_succ, s_invokestatic, rc_s, ob_s, List.drop_succ_cons, List.drop_zero, List.take_succ_cons, List.take_zero, List.reverse_cons, List.reverse_nil, List.nil_append, List.cons_append, List.length_cons, List.length_nil, Nat.reduceEqDiff, eq_self, reduceIte, p1_s, p2_s, l1_s, d1, Int.reduceToNat, Nat.reduceAdd, Nat.reduceLeDiff, true_and, and_true, Nat.le_refl, true_implies, forall_const, not_false_eq_true, false_implies, not_true_eq_false, reduceCtorEq, tl_s, tl_n, rf_s, true_or, or_true, q1.1]
    refine Plane_sqd_c (by omega) b0 b1 ?_
    refine B_Thinning_farthestFromFirst_26 ?_
    simp only [wp_cons, wp_nil, List.getElem?_cons_zero, List.getElem?_cons_succ, List.set_cons_zero, List.set_cons_succ, s_istore, p1_s, s1_0, s1_s, kx_i, kx_r, kx_s, kx_n, kx_l, kx_0, s_iload, ldI_s, s_iload_n2, s_if_icmp_le, p2_s, true_and, and_true, Nat.le_refl, true_implies, forall_const, not_false_eq_true, false_implies, not_true_eq_false, reduceCtorEq, tl_s, tl_n, rf_s, List.cons_append, List.nil_append, true_or, or_true, q1.1]
    refine b_le (by omega) (by omega) (fun c => ?_) (fun c => ?_)
    · refine B_Thinning_farthestFromFirst_39 ?_
      simp only [wp_cons, wp_nil, List.getElem?_cons_zero, List.getElem?_cons_succ, List.set_cons_zero, List.set_cons_succ, s_iinc, ldI_s, s1_0, s1_s, kx_i, kx_r, kx_s, kx_n, kx_l, kx_0, I_add, s_goto, true_and, and_true, Nat.le_refl, true_implies, forall_const, not_false_eq_true, false_implies, not_true_eq_false, reduceCtorEq, tl_s, tl_n, rf_s, List.cons_append, List.nil_append, true_or, or_true, q1.1]
      exact ih (i + 1) v u _ (by omega) (by omega) (by rw [show i + 1 - 1 = i by omega, hn, if_neg (by omega)]) hu
    · refine B_Thinning_farthestFromFirst_34 ?_
      simp only [wp_cons, wp_nil, List.getElem?_cons_zero, List.getElem?_cons_succ, List.set_cons_zero, List.set_cons_succ, s_iload, ldI_s, s_istore_n2, p1_s, s1_0, s1_s, kx_i, kx_r, kx_s, kx_n, kx_l, kx_0, s_iload_n3, s_istore_n1, true_and, and_true, Nat.le_refl, true_implies, forall_const, not_false_eq_true, false_implies, not_true_eq_false, reduceCtorEq, tl_s, tl_n, rf_s, List.cons_append, List.nil_append, true_or, or_true, q1.1]
      refine B_Thinning_farthestFromFirst_39 ?_
      simp only [wp_cons, wp_nil, List.getElem?_cons_zero, List.getElem?_cons_succ, List.set_cons_zero, List.set_cons_succ, s_iinc, ldI_s, s1_0, s1_s, kx_i, kx_r, kx_s, kx_n, kx_l, kx_0, I_add, s_goto, true_and, and_true, Nat.le_refl, true_implies, forall_const, not_false_eq_true, false_implies, not_true_eq_false, reduceCtorEq, tl_s, tl_n, rf_s, List.cons_append, List.nil_append, true_or, or_true, q1.1]
      exact ih (i + 1) i _ _ (by omega) (by omega) (by rw [show i + 1 - 1 = i by omega, hn, if_pos c]) rfl
theorem Thn_ff_c {d s : Nat} (d2 : 2 ≤ d) {S : Stk} {h : g_H} {Q : g_Po} (hs : stL h s S) (hl : 0 < S.1.length) (hp : stP S.1) (hQ : Q (some (.int (I (ffS S : Int)))) h) : Call Thinning_farthestFromFirst d 0 0 [.ref s] h Q := by
  refine Call.intro (by rfl) (Nat.le_of_ble_eq_true rfl) ?_
  refine G.eqL (L := [some (.ref _), none, none, none, none]) rfl ?_
  refine B_Thinning_farthestFromFirst_0 ?_
  simp only [wp_cons, wp_nil, List.getElem?_cons_zero, List.getElem?_cons_succ, List.set_cons_zero, List.set_cons_succ, s_iconst, s_istore_n1, p1_s, s1_0, s1_s, kx_i, kx_r, kx_s, kx_n, kx_l, kx_0, s_istore_n2, s_istore_n3, true_and, and_true, Nat.le_refl, true_implies, forall_const, not_false_eq_true, false_implies, not_true_eq_false, reduceCtorEq, tl_s, tl_n, rf_s, List.cons_append, List.nil_append, true_or, or_true]
  exact Thn_ff_l d2 hs hp hQ (S.1.length - 1) 1 0 0 _ (by omega) (by omega) rfl ((sqd_0 (hp 0 hl) (hp 0 hl)).mpr rfl).symm
theorem Thn_off_c {d : Nat} (d2 : 2 ≤ d) {a b p : Int} {h : g_H} {Q : g_Po} (ha : pt a) (hb : pt b) (hp : pt p) (hQ : Q (some (.long (J (offS a b p)))) h) : Call Thinning_squaredOffset d 0 0 [.int (I a), .int (I b), .int (I p)] h Q := by
  have d1 : 1 ≤ d := by omega
  have h1 := sqd_bd ha hp
  have h2 := crs_bd ha hb hp
  unfold offS at hQ
  refine Call.intro (by rfl) (Nat.le_of_ble_eq_true rfl) ?_
  refine G.eqL (L := [some (.int _), some (.int _), some (.int _), none, none]) rfl ?_
  refine B_Thinning_squaredOffset_0 ?_
  simp only [wp_cons, wp_nil, List.getElem?_cons_zero, List.getElem?_cons_succ, List.set_cons_zero, List.set_cons_succ, s_iload_n0, ldI_s, s_iload_n1, s_if_icmp_ne, p2_s, true_and, and_true, Nat.le_refl, true_implies, forall_const, not_false_eq_true, false_implies, not_true_eq_false, reduceCtorEq, tl_s, tl_n, rf_s, List.cons_append, List.nil_append, true_or, or_true]
  refine b_ne (by omega) (by omega) (fun c => ?_) (fun c => ?_)
  · rw [if_neg c] at hQ
    refine B_Thinning_squaredOffset_12 ?_
    simp only [wp_cons, wp_nil, List.getElem?_cons_zero, List.getElem?_cons_succ, List.set_cons_zero, List.set_cons_succ, s_iload_n0, ldI_s, s_iload_n1, s_iload_n2, s_invokestatic, rc_s, ob_s, List.drop_succ_cons, List.drop_zero, List.take_succ_cons, List.take_zero, List.reverse_cons, List.reverse_nil, List.nil_append, List.cons_append, List.length_cons, List.length_nil, Nat.reduceEqDiff, eq_self, reduceIte, p1_s, p2_s, l1_s, d1, Int.reduceToNat, Nat.reduceAdd, Nat.reduceLeDiff, true_and, and_true, Nat.le_refl, true_implies, forall_const, not_false_eq_true, false_implies, not_true_eq_false, reduceCtorEq, tl_s, tl_n, rf_s, true_or, or_true]
    refine Plane_cross_c (by omega) ha hb hp ?_
    refine B_Thinning_squaredOffset_18 ?_
    simp only [wp_cons, wp_nil, List.getElem?_cons_zero, List.getElem?_cons_succ, List.set_cons_zero, List.set_cons_succ, s_i2l, p1_s, s_lstore_n3, l1_s, s2_0, s2_s, kx_i, kx_r, kx_s, kx_n, kx_l, kx_0, s_lload_n3, ldL_s, s_lmul, l2_s, J_mul, s_lreturn, rt_Thinning_squaredOffset, true_and, and_true, Nat.le_refl, true_implies, forall_const, not_false_eq_true, false_implies, not_true_eq_false, reduceCtorEq, tl_s, tl_n, rf_s, List.cons_append, List.nil_append, true_or, or_true, I_J (show i32 (crs a b p) by omega)]
    exact hQ
  · rw [if_pos c] at hQ
    refine B_Thinning_squaredOffset_5 ?_
    simp only [wp_cons, wp_nil, List.getElem?_cons_zero, List.getElem?_cons_succ, List.set_cons_zero, List.set_cons_succ, s_iload_n0, ldI_s, s_iload_n2, s_invokestatic, rc_s, ob_s, List.drop_succ_cons, List.drop_zero, List.take_succ_cons, List.take_zero, List.reverse_cons, List.reverse_nil, List.nil_append, List.cons_append, List.length_cons, List.length_nil, Nat.reduceEqDiff, eq_self, reduceIte, p1_s, p2_s, l1_s, d1, Int.reduceToNat, Nat.reduceAdd, Nat.reduceLeDiff, true_and, and_true, Nat.le_refl, true_implies, forall_const, not_false_eq_true, false_implies, not_true_eq_false, reduceCtorEq, tl_s, tl_n, rf_s, true_or, or_true]
    refine Plane_sqd_c (by omega) ha hp ?_
    refine B_Thinning_squaredOffset_10 ?_
    simp only [wp_cons, wp_nil, List.getElem?_cons_zero, List.getElem?_cons_succ, List.set_cons_zero, List.set_cons_succ, s_i2l, p1_s, s_lreturn, l1_s, rt_Thinning_squaredOffset, true_and, and_true, Nat.le_refl, true_implies, forall_const, not_false_eq_true, false_implies, not_true_eq_false, reduceCtorEq, tl_s, tl_n, rf_s, List.cons_append, List.nil_append, true_or, or_true, I_J (show i32 (sqd a p) by omega)]
    exact hQ
theorem Thn_scl_c {d : Nat} (d2 : 2 ≤ d) {a b : Int} {h : g_H} {Q : g_Po} (ha : pt a) (hb : pt b) (hQ : Q (some (.long (J (sclS a b)))) h) : Call Thinning_scale d 0 0 [.int (I a), .int (I b)] h Q := by
  have d1 : 1 ≤ d := by omega
  have h1 := sqd_bd ha hb
  unfold sclS at hQ
  refine Call.intro (by rfl) (Nat.le_of_ble_eq_true rfl) ?_
  refine G.eqL (L := [some (.int _), some (.int _)]) rfl ?_
  refine B_Thinning_scale_0 ?_
  simp only [wp_cons, wp_nil, List.getElem?_cons_zero, List.getElem?_cons_succ, List.set_cons_zero, List.set_cons_succ, s_iload_n0, ldI_s, s_iload_n1, s_if_icmp_ne, p2_s, true_and, and_true, Nat.le_refl, true_implies, forall_const, not_false_eq_true, false_implies, not_true_eq_false, reduceCtorEq, tl_s, tl_n, rf_s, List.cons_append, List.nil_append, true_or, or_true]
  refine b_ne (by omega) (by omega) (fun c => ?_) (fun c => ?_)
  · rw [if_neg c] at hQ
    refine B_Thinning_scale_9 ?_
    simp only [wp_cons, wp_nil, List.getElem?_cons_zero, List.getElem?_cons_succ, List.set_cons_zero, List.set_cons_succ, s_iload_n0, ldI_s, s_iload_n1, s_invokestatic, rc_s, ob_s, List.drop_succ_cons, List.drop_zero, List.take_succ_cons, List.take_zero, List.reverse_cons, List.reverse_nil, List.nil_append, List.cons_append, List.length_cons, List.length_nil, Nat.reduceEqDiff, eq_self, reduceIte, p1_s, p2_s, l1_s, d1, Int.reduceToNat, Nat.reduceAdd, Nat.reduceLeDiff, true_and, and_true, Nat.le_refl, true_implies, forall_const, not_false_eq_true, false_implies, not_true_eq_false, reduceCtorEq, tl_s, tl_n, rf_s, true_or, or_true]
    refine Plane_sqd_c (by omega) ha hb ?_
    refine B_Thinning_scale_14 ?_
    simp only [wp_cons, wp_nil, List.getElem?_cons_zero, List.getElem?_cons_succ, List.set_cons_zero, List.set_cons_succ, s_i2l, p1_s, true_and, and_true, Nat.le_refl, true_implies, forall_const, not_false_eq_true, false_implies, not_true_eq_false, reduceCtorEq, tl_s, tl_n, rf_s, List.cons_append, List.nil_append, true_or, or_true, I_J (show i32 (sqd a b) by omega)]
    refine B_Thinning_scale_15 ?_
    simp only [wp_cons, wp_nil, List.getElem?_cons_zero, List.getElem?_cons_succ, List.set_cons_zero, List.set_cons_succ, s_lreturn, l1_s, rt_Thinning_scale, true_and, and_true, Nat.le_refl, true_implies, forall_const, not_false_eq_true, false_implies, not_true_eq_false, reduceCtorEq, tl_s, tl_n, rf_s, List.cons_append, List.nil_append, true_or, or_true, I_J (show i32 (sqd a b) by omega)]
    exact hQ
  · rw [if_pos c] at hQ
    refine B_Thinning_scale_5 ?_
    simp only [wp_cons, wp_nil, List.getElem?_cons_zero, List.getElem?_cons_succ, List.set_cons_zero, List.set_cons_succ, s_lconst0, s_lconst1, s_goto, true_and, and_true, Nat.le_refl, true_implies, forall_const, not_false_eq_true, false_implies, not_true_eq_false, reduceCtorEq, tl_s, tl_n, rf_s, List.cons_append, List.nil_append, true_or, or_true]
    refine B_Thinning_scale_15 ?_
    simp only [wp_cons, wp_nil, List.getElem?_cons_zero, List.getElem?_cons_succ, List.set_cons_zero, List.set_cons_succ, s_lreturn, l1_s, rt_Thinning_scale, true_and, and_true, Nat.le_refl, true_implies, forall_const, not_false_eq_true, false_implies, not_true_eq_false, reduceCtorEq, tl_s, tl_n, rf_s, List.cons_append, List.nil_append, true_or, or_true]
    exact hQ
theorem Thn_fb_l {d s a b : Nat} (d3 : 3 ≤ d) {S : Stk} {h : g_H} {Q : g_Po} (hs : stL h s S) (hp : stP S.1) (ha : a < S.1.length) (hb : b ≤ S.1.length) (hQ : Q (some (.int (I (if b ≤ a + 1 then -6 else (frS S a b : Int))))) h) : ∀ (m i : Nat) (v u : Int) (x7 x8 : Option Value), i + m = (if b ≤ a + 1 then a + 1 else b) → a < i → (v = if i = a + 1 then -6 else (fbb (fun i => offS (pg S.1 a) (pr S.1 b) (pg S.1 i)) a (i - a - 2) : Int)) → (u = if i = a + 1 then -1 else offS (pg S.1 a) (pr S.1 b) (pg S.1 (fbb (fun i => offS (pg S.1 a) (pr S.1 b) (pg S.1 i)) a (i - a - 2)))) →
    G Thinning_farthestBetween d 0 0 0 0 13 [some (.ref s), some (.int (I (a : Int))), some (.int (I (b : Int))), some (.int (I v)), some (.long (J u)), none, some (.int (I (i : Int))), x7, x8] [] h Q := by
  have d1 : 1 ≤ d := by omega
  have hb9 := hs.len
  have b0 := hp a ha
  have b1 := pr_pt (i := b) hp (by omega)
  obtain ⟨f, q1, q2, q3⟩ := id hs
  intro m
  induction m with
  | zero =>
    intro i v u x7 x8 hi h1 hv hu
    by_cases cb : b ≤ a + 1
    · rw [if_pos cb] at hQ hi
      refine B_Thinning_farthestBetween_13 ?_
      simp only [wp_cons, wp_nil, List.getElem?_cons_zero, List.getElem?_cons_succ, List.set_cons_zero, List.set_cons_succ, s_iload, ldI_s, s_iload_n2, s_if_icmp_ge, p2_s, true_and, and_true, Nat.le_refl, true_implies, forall_const, not_false_eq_true, false_implies, not_true_eq_false, reduceCtorEq, tl_s, tl_n, rf_s, List.cons_append, List.nil_append, true_or, or_true, q1.1]
      refine b_le (by omega) (by omega) (fun cc => ?_) (fun cc => absurd cc (by omega))
      refine B_Thinning_farthestBetween_61 ?_
      simp only [wp_cons, wp_nil, List.getElem?_cons_zero, List.getElem?_cons_succ, List.set_cons_zero, List.set_cons_succ, s_iload_n3, ldI_s, s_ireturn, p1_s, rI_i, rI_z, rI_c, z_01, z_11, rt_Thinning_farthestBetween, true_and, and_true, Nat.le_refl, true_implies, forall_const, not_false_eq_true, false_implies, not_true_eq_false, reduceCtorEq, tl_s, tl_n, rf_s, List.cons_append, List.nil_append, true_or, or_true, q1.1]
      rw [hv, if_pos (by omega)]
      exact hQ
    · rw [if_neg cb] at hQ hi
      refine B_Thinning_farthestBetween_13 ?_
      simp only [wp_cons, wp_nil, List.getElem?_cons_zero, List.getElem?_cons_succ, List.set_cons_zero, List.set_cons_succ, s_iload, ldI_s, s_iload_n2, s_if_icmp_ge, p2_s, true_and, and_true, Nat.le_refl, true_implies, forall_const, not_false_eq_true, false_implies, not_true_eq_false, reduceCtorEq, tl_s, tl_n, rf_s, List.cons_append, List.nil_append, true_or, or_true, q1.1]
      refine b_le (by omega) (by omega) (fun cc => ?_) (fun cc => absurd cc (by omega))
      refine B_Thinning_farthestBetween_61 ?_
      simp only [wp_cons, wp_nil, List.getElem?_cons_zero, List.getElem?_cons_succ, List.set_cons_zero, List.set_cons_succ, s_iload_n3, ldI_s, s_ireturn, p1_s, rI_i, rI_z, rI_c, z_01, z_11, rt_Thinning_farthestBetween, true_and, and_true, Nat.le_refl, true_implies, forall_const, not_false_eq_true, false_implies, not_true_eq_false, reduceCtorEq, tl_s, tl_n, rf_s, List.cons_append, List.nil_append, true_or, or_true, q1.1]
      rw [hv, if_neg (by omega), show i = b by omega]
      exact hQ
  | succ m ih =>
    intro i v u x7 x8 hi h1 hv hu
    have cb : ¬ b ≤ a + 1 := fun c => by rw [if_pos c] at hi; omega
    rw [if_neg cb] at hi
    have b2 := hp i (by omega)
    have b3 := offS_bd b0 b1 b2
    have hub : -1 ≤ u ∧ u ≤ 3984023984004 := by
      rw [hu]
      split
      · omega
      · have r := fbb_rng (fun i => offS (pg S.1 a) (pr S.1 b) (pg S.1 i)) a (i - a - 2)
        have := offS_bd b0 b1 (hp (fbb (fun i => offS (pg S.1 a) (pr S.1 b) (pg S.1 i)) a (i - a - 2)) (by omega))
        omega
    have hn : (fbb (fun i => offS (pg S.1 a) (pr S.1 b) (pg S.1 i)) a (i + 1 - a - 2) : Int) = if u < offS (pg S.1 a) (pr S.1 b) (pg S.1 i) then (i : Int) else v := by
      by_cases e : i = a + 1
      · subst e
        rw [if_pos rfl] at hu
        rw [if_pos (by omega), show a + 1 + 1 - a - 2 = 0 by omega]
        rfl
      · obtain ⟨j, rfl⟩ : ∃ j, i = a + 1 + (j + 1) := ⟨i - a - 2, by omega⟩
        rw [if_neg e, show a + 1 + (j + 1) - a - 2 = j by omega] at hu hv
        rw [show a + 1 + (j + 1) + 1 - a - 2 = j + 1 by omega, hu, hv]
        show ((if _ then _ else _ : Nat) : Int) = _
        split <;> rfl
    refine B_Thinning_farthestBetween_13 ?_
    simp only [wp_cons, wp_nil, List.getElem?_cons_zero, List.getElem?_cons_succ, List.set_cons_zero, List.set_cons_succ, s_iload, ldI_s, s_iload_n2, s_if_icmp_ge, p2_s, true_and, and_true, Nat.le_refl, true_implies, forall_const, not_false_eq_true, false_implies, not_true_eq_false, reduceCtorEq, tl_s, tl_n, rf_s, List.cons_append, List.nil_append, true_or, or_true, q1.1]
    refine b_le (by omega) (by omega) (fun cc => absurd cc (by omega)) (fun cc => ?_)
    refine B_Thinning_farthestBetween_19 ?_
    simp only [wp_cons, wp_nil, List.getElem?_cons_zero, List.getElem?_cons_succ, List.set_cons_zero, List.set_cons_succ, s_aload_n0, ldA_r, ldA_n, ldA_s, s_iload_n1, ldI_s, s_invokevirtual, rc_s, ob_s, List.drop_succ_cons, List.drop_zero, List.take_succ_cons, List.take_zero, List.reverse_cons, List.reverse_nil, List.nil_append, List.cons_append, List.length_cons, List.length_nil, d1, Int.reduceToNat, Nat.reduceAdd, Nat.reduceLeDiff, true_and, and_true, Nat.le_refl, true_implies, forall_const, not_false_eq_true, false_implies, not_true_eq_false, reduceCtorEq, tl_s, tl_n, rf_s, true_or, or_true, q1.1]
    refine Stroke_at_c hs (by omega) ?_
    refine B_Thinning_farthestBetween_24 ?_
    simp only [wp_cons, wp_nil, List.getElem?_cons_zero, List.getElem?_cons_succ, List.set_cons_zero, List.set_cons_succ, s_aload_n0, ldA_r, ldA_n, ldA_s, s_iload_n2, ldI_s, s_invokevirtual, rc_s, ob_s, List.drop_succ_cons, List.drop_zero, List.take_succ_cons, List.take_zero, List.reverse_cons, List.reverse_nil, List.nil_append, List.cons_append, List.length_cons, List.length_nil, d1, Int.reduceToNat, Nat.reduceAdd, Nat.reduceLeDiff, true_and, and_true, Nat.le_refl, true_implies, forall_const, not_false_eq_true, false_implies, not_true_eq_false, reduceCtorEq, tl_s, tl_n, rf_s, true_or, or_true, q1.1]
    refine Stroke_around_c (by omega) hs (by omega) (by omega) ?_
    refine B_Thinning_farthestBetween_29 ?_
    simp only [wp_cons, wp_nil, List.getElem?_cons_zero, List.getElem?_cons_succ, List.set_cons_zero, List.set_cons_succ, s_aload_n0, ldA_r, ldA_n, ldA_s, s_iload, ldI_s, s_invokevirtual, rc_s, ob_s, List.drop_succ_cons, List.drop_zero, List.take_succ_cons, List.take_zero, List.reverse_cons, List.reverse_nil, List.nil_append, List.cons_append, List.length_cons, List.length_nil, d1, Int.reduceToNat, Nat.reduceAdd, Nat.reduceLeDiff, true_and, and_true, Nat.le_refl, true_implies, forall_const, not_false_eq_true, false_implies, not_true_eq_false, reduceCtorEq, tl_s, tl_n, rf_s, true_or, or_true, q1.1]
    refine Stroke_at_c hs (by omega) ?_
    refine B_Thinning_farthestBetween_35 ?_
    simp only [wp_cons, wp_nil, List.getElem?_cons_zero, List.getElem?_cons_succ, List.set_cons_zero, List.set_cons_succ, s_invokestatic, rc_s, ob_s, List.drop_succ_cons, List.drop_zero, List.take_succ_cons, List.take_zero, List.reverse_cons, List.reverse_nil, List.nil_append, List.cons_append, List.length_cons, List.length_nil, Nat.reduceEqDiff, eq_self, reduceIte, p1_s, p2_s, l1_s, d1, Int.reduceToNat, Nat.reduceAdd, Nat.reduceLeDiff, true_and, and_true, Nat.le_refl, true_implies, forall_const, not_false_eq_true, false_implies, not_true_eq_false, reduceCtorEq, tl_s, tl_n, rf_s, true_or, or_true, q1.1]
    refine Thn_off_c (by omega) b0 b1 b2 ?_
    refine B_Thinning_farthestBetween_38 ?_
    simp only [wp_cons, wp_nil, List.getElem?_cons_zero, List.getElem?_cons_succ, List.set_cons_zero, List.set_cons_succ, s_lstore, l1_s, s2_0, s2_s, kx_i, kx_r, kx_s, kx_n, kx_l, kx_0, s_lload, ldL_s, s_lcmp, l2_s, s_ifCond_le, p1_s, true_and, and_true, Nat.le_refl, true_implies, forall_const, not_false_eq_true, false_implies, not_true_eq_false, reduceCtorEq, tl_s, tl_n, rf_s, List.cons_append, List.nil_append, true_or, or_true, q1.1]
    refine b_cle (by omega) (by omega) (fun c => ?_) (fun c => ?_)
    · refine B_Thinning_farthestBetween_55 ?_
      simp only [wp_cons, wp_nil, List.getElem?_cons_zero, List.getElem?_cons_succ, List.set_cons_zero, List.set_cons_succ, s_iinc, ldI_s, s1_0, s1_s, kx_i, kx_r, kx_s, kx_n, kx_l, kx_0, I_add, s_goto, true_and, and_true, Nat.le_refl, true_implies, forall_const, not_false_eq_true, false_implies, not_true_eq_false, reduceCtorEq, tl_s, tl_n, rf_s, List.cons_append, List.nil_append, true_or, or_true, q1.1]
      rw [if_neg (by omega)] at hn
      refine ih (i + 1) v u _ _ (by rw [if_neg cb]; omega) (by omega) (by rw [if_neg (by omega), hn]) ?_
      rw [if_neg (by omega)]
      by_cases e : i = a + 1
      · rw [if_pos e] at hu; omega
      · rw [if_neg e] at hu hv
        rw [hv] at hn
        rw [hu, show fbb (fun i => offS (pg S.1 a) (pr S.1 b) (pg S.1 i)) a (i + 1 - a - 2) = fbb (fun i => offS (pg S.1 a) (pr S.1 b) (pg S.1 i)) a (i - a - 2) by omega]
    · refine B_Thinning_farthestBetween_48 ?_
      simp only [wp_cons, wp_nil, List.getElem?_cons_zero, List.getElem?_cons_succ, List.set_cons_zero, List.set_cons_succ, s_lload, ldL_s, s_lstore, l1_s, s2_0, s2_s, kx_i, kx_r, kx_s, kx_n, kx_l, kx_0, s_iload, ldI_s, s_istore_n3, p1_s, s1_0, s1_s, true_and, and_true, Nat.le_refl, true_implies, forall_const, not_false_eq_true, false_implies, not_true_eq_false, reduceCtorEq, tl_s, tl_n, rf_s, List.cons_append, List.nil_append, true_or, or_true, q1.1]
      refine B_Thinning_farthestBetween_55 ?_
      simp only [wp_cons, wp_nil, List.getElem?_cons_zero, List.getElem?_cons_succ, List.set_cons_zero, List.set_cons_succ, s_iinc, ldI_s, s1_0, s1_s, kx_i, kx_r, kx_s, kx_n, kx_l, kx_0, I_add, s_goto, true_and, and_true, Nat.le_refl, true_implies, forall_const, not_false_eq_true, false_implies, not_true_eq_false, reduceCtorEq, tl_s, tl_n, rf_s, List.cons_append, List.nil_append, true_or, or_true, q1.1]
      rw [if_pos (by omega)] at hn
      refine ih (i + 1) i _ _ _ (by rw [if_neg cb]; omega) (by omega) (by rw [if_neg (by omega), hn]) ?_
      rw [if_neg (by omega), show fbb (fun i => offS (pg S.1 a) (pr S.1 b) (pg S.1 i)) a (i + 1 - a - 2) = i by omega]
theorem Thn_fb_c {d s a b : Nat} (d3 : 3 ≤ d) {S : Stk} {h : g_H} {Q : g_Po} (hs : stL h s S) (hp : stP S.1) (ha : a < S.1.length) (hb : b ≤ S.1.length) (hQ : Q (some (.int (I (if b ≤ a + 1 then -6 else (frS S a b : Int))))) h) : Call Thinning_farthestBetween d 0 0 [.ref s, .int (I (a : Int)), .int (I (b : Int))] h Q := by
  refine Call.intro (by rfl) (Nat.le_of_ble_eq_true rfl) ?_
  refine G.eqL (L := [some (.ref _), some (.int _), some (.int _), none, none, none, none, none, none]) rfl ?_
  refine B_Thinning_farthestBetween_0 ?_
  simp only [wp_cons, wp_nil, List.getElem?_cons_zero, List.getElem?_cons_succ, List.set_cons_zero, List.set_cons_succ, s_bipush, s_istore_n3, p1_s, s1_0, s1_s, kx_i, kx_r, kx_s, kx_n, kx_l, kx_0, s_ldc2_w, s_lstore, l1_s, s2_0, s2_s, s_iload_n1, ldI_s, s_iconst, s_iadd, p2_s, I_add, s_istore, true_and, and_true, Nat.le_refl, true_implies, forall_const, not_false_eq_true, false_implies, not_true_eq_false, reduceCtorEq, tl_s, tl_n, rf_s, List.cons_append, List.nil_append, true_or, or_true]
  exact Thn_fb_l d3 hs hp ha hb hQ ((if b ≤ a + 1 then a + 1 else b) - (a + 1)) (a + 1) (-6) (-1) _ _ (by split <;> omega) (by omega) (if_pos rfl).symm (if_pos rfl).symm
theorem Thn_own_c {d s a b k : Nat} (d3 : 3 ≤ d) {S : Stk} {h : g_H} {Q : g_Po} (hs : stL h s S) (hp : stP S.1) (ha : a < S.1.length) (hb : b ≤ S.1.length) (hk : k < S.1.length) (hQ : Q (some (.int (I (ownS (pg S.1 a) (pr S.1 b) (pg S.1 k))))) h) : Call Thinning_ownLevel d 0 0 [.ref s, .int (I (a : Int)), .int (I (b : Int)), .int (I (k : Int))] h Q := by
  have d1 : 1 ≤ d := by omega
  have hb9 := hs.len
  have b0 := hp a ha
  have b1 := pr_pt (i := b) hp (by omega)
  have b2 := hp k hk
  have b3 := offS_bd b0 b1 b2
  have b4 := sclS_bd b0 b1
  obtain ⟨f, q1, q2, q3⟩ := id hs
  unfold ownS at hQ
  refine Call.intro (by rfl) (Nat.le_of_ble_eq_true rfl) ?_
  refine G.eqL (L := [some (.ref _), some (.int _), some (.int _), some (.int _), none, none, none, none]) rfl ?_
  refine B_Thinning_ownLevel_0 ?_
  simp only [wp_cons, wp_nil, List.getElem?_cons_zero, List.getElem?_cons_succ, List.set_cons_zero, List.set_cons_succ, s_aload_n0, ldA_r, ldA_n, ldA_s, s_iload_n1, ldI_s, s_invokevirtual, rc_s, ob_s, List.drop_succ_cons, List.drop_zero, List.take_succ_cons, List.take_zero, List.reverse_cons, List.reverse_nil, List.nil_append, List.cons_append, List.length_cons, List.length_nil, d1, Int.reduceToNat, Nat.reduceAdd, Nat.reduceLeDiff, true_and, and_true, Nat.le_refl, true_implies, forall_const, not_false_eq_true, false_implies, not_true_eq_false, reduceCtorEq, tl_s, tl_n, rf_s, true_or, or_true, q1.1]
  refine Stroke_at_c hs (by omega) ?_
  refine B_Thinning_ownLevel_5 ?_
  simp only [wp_cons, wp_nil, List.getElem?_cons_zero, List.getElem?_cons_succ, List.set_cons_zero, List.set_cons_succ, s_aload_n0, ldA_r, ldA_n, ldA_s, s_iload_n2, ldI_s, s_invokevirtual, rc_s, ob_s, List.drop_succ_cons, List.drop_zero, List.take_succ_cons, List.take_zero, List.reverse_cons, List.reverse_nil, List.nil_append, List.cons_append, List.length_cons, List.length_nil, d1, Int.reduceToNat, Nat.reduceAdd, Nat.reduceLeDiff, true_and, and_true, Nat.le_refl, true_implies, forall_const, not_false_eq_true, false_implies, not_true_eq_false, reduceCtorEq, tl_s, tl_n, rf_s, true_or, or_true, q1.1]
  refine Stroke_around_c (by omega) hs (by omega) (by omega) ?_
  refine B_Thinning_ownLevel_10 ?_
  simp only [wp_cons, wp_nil, List.getElem?_cons_zero, List.getElem?_cons_succ, List.set_cons_zero, List.set_cons_succ, s_aload_n0, ldA_r, ldA_n, ldA_s, s_iload_n3, ldI_s, s_invokevirtual, rc_s, ob_s, List.drop_succ_cons, List.drop_zero, List.take_succ_cons, List.take_zero, List.reverse_cons, List.reverse_nil, List.nil_append, List.cons_append, List.length_cons, List.length_nil, d1, Int.reduceToNat, Nat.reduceAdd, Nat.reduceLeDiff, true_and, and_true, Nat.le_refl, true_implies, forall_const, not_false_eq_true, false_implies, not_true_eq_false, reduceCtorEq, tl_s, tl_n, rf_s, true_or, or_true, q1.1]
  refine Stroke_at_c hs (by omega) ?_
  refine B_Thinning_ownLevel_15 ?_
  simp only [wp_cons, wp_nil, List.getElem?_cons_zero, List.getElem?_cons_succ, List.set_cons_zero, List.set_cons_succ, s_invokestatic, rc_s, ob_s, List.drop_succ_cons, List.drop_zero, List.take_succ_cons, List.take_zero, List.reverse_cons, List.reverse_nil, List.nil_append, List.cons_append, List.length_cons, List.length_nil, Nat.reduceEqDiff, eq_self, reduceIte, p1_s, p2_s, l1_s, d1, Int.reduceToNat, Nat.reduceAdd, Nat.reduceLeDiff, true_and, and_true, Nat.le_refl, true_implies, forall_const, not_false_eq_true, false_implies, not_true_eq_false, reduceCtorEq, tl_s, tl_n, rf_s, true_or, or_true, q1.1]
  refine Thn_off_c (by omega) b0 b1 b2 ?_
  refine B_Thinning_ownLevel_18 ?_
  simp only [wp_cons, wp_nil, List.getElem?_cons_zero, List.getElem?_cons_succ, List.set_cons_zero, List.set_cons_succ, s_lstore, l1_s, s2_0, s2_s, kx_i, kx_r, kx_s, kx_n, kx_l, kx_0, s_aload_n0, ldA_r, ldA_n, ldA_s, s_iload_n1, ldI_s, s_invokevirtual, rc_s, ob_s, List.drop_succ_cons, List.drop_zero, List.take_succ_cons, List.take_zero, List.reverse_cons, List.reverse_nil, List.nil_append, List.cons_append, List.length_cons, List.length_nil, d1, Int.reduceToNat, Nat.reduceAdd, Nat.reduceLeDiff, true_and, and_true, Nat.le_refl, true_implies, forall_const, not_false_eq_true, false_implies, not_true_eq_false, reduceCtorEq, tl_s, tl_n, rf_s, true_or, or_true, q1.1]
  refine Stroke_at_c hs (by omega) ?_
  refine B_Thinning_ownLevel_25 ?_
  simp only [wp_cons, wp_nil, List.getElem?_cons_zero, List.getElem?_cons_succ, List.set_cons_zero, List.set_cons_succ, s_aload_n0, ldA_r, ldA_n, ldA_s, s_iload_n2, ldI_s, s_invokevirtual, rc_s, ob_s, List.drop_succ_cons, List.drop_zero, List.take_succ_cons, List.take_zero, List.reverse_cons, List.reverse_nil, List.nil_append, List.cons_append, List.length_cons, List.length_nil, d1, Int.reduceToNat, Nat.reduceAdd, Nat.reduceLeDiff, true_and, and_true, Nat.le_refl, true_implies, forall_const, not_false_eq_true, false_implies, not_true_eq_false, reduceCtorEq, tl_s, tl_n, rf_s, true_or, or_true, q1.1]
  refine Stroke_around_c (by omega) hs (by omega) (by omega) ?_
  refine B_Thinning_ownLevel_30 ?_
  simp only [wp_cons, wp_nil, List.getElem?_cons_zero, List.getElem?_cons_succ, List.set_cons_zero, List.set_cons_succ, s_invokestatic, rc_s, ob_s, List.drop_succ_cons, List.drop_zero, List.take_succ_cons, List.take_zero, List.reverse_cons, List.reverse_nil, List.nil_append, List.cons_append, List.length_cons, List.length_nil, Nat.reduceEqDiff, eq_self, reduceIte, p1_s, p2_s, l1_s, d1, Int.reduceToNat, Nat.reduceAdd, Nat.reduceLeDiff, true_and, and_true, Nat.le_refl, true_implies, forall_const, not_false_eq_true, false_implies, not_true_eq_false, reduceCtorEq, tl_s, tl_n, rf_s, true_or, or_true, q1.1]
  refine Thn_scl_c (by omega) b0 b1 ?_
  refine B_Thinning_ownLevel_33 ?_
  simp only [wp_cons, wp_nil, List.getElem?_cons_zero, List.getElem?_cons_succ, List.set_cons_zero, List.set_cons_succ, s_lstore, l1_s, s2_0, s2_s, kx_i, kx_r, kx_s, kx_n, kx_l, kx_0, s_lload, ldL_s, s_lconst0, s_lconst1, s_lcmp, l2_s, s_ifCond_le, p1_s, true_and, and_true, Nat.le_refl, true_implies, forall_const, not_false_eq_true, false_implies, not_true_eq_false, reduceCtorEq, tl_s, tl_n, rf_s, List.cons_append, List.nil_append, true_or, or_true, q1.1]
  refine b_cle (by omega) (by omega) (fun c => ?_) (fun c => ?_)
  · rw [if_pos c] at hQ
    refine B_Thinning_ownLevel_49 ?_
    simp only [wp_cons, wp_nil, List.getElem?_cons_zero, List.getElem?_cons_succ, List.set_cons_zero, List.set_cons_succ, s_iconst, s_ireturn, p1_s, rI_i, rI_z, rI_c, z_01, z_11, rt_Thinning_ownLevel, true_and, and_true, Nat.le_refl, true_implies, forall_const, not_false_eq_true, false_implies, not_true_eq_false, reduceCtorEq, tl_s, tl_n, rf_s, List.cons_append, List.nil_append, true_or, or_true, q1.1]
    exact hQ
  · rw [if_neg (by omega)] at hQ
    have c2 := own_div b0 b1 b2 c
    have c3 := rt_ok c2.1 c2.2
    have e1 : J (offS (pg S.1 a) (pr S.1 b) (pg S.1 k) - 1) / J (sclS (pg S.1 a) (pr S.1 b)) = J ((offS (pg S.1 a) (pr S.1 b) (pg S.1 k) - 1) / sclS (pg S.1 a) (pr S.1 b)) := by
      rw [J_div (by omega) (by omega), Int.tdiv_eq_ediv_of_nonneg (by omega)]
    have e2 : (¬ J (sclS (pg S.1 a) (pr S.1 b)) = J 0) = True := by
      rw [J_eq (by omega) (by omega)]
      simp only [eq_iff_iff, iff_true]
      omega
    refine B_Thinning_ownLevel_42 ?_
    simp only [wp_cons, wp_nil, List.getElem?_cons_zero, List.getElem?_cons_succ, List.set_cons_zero, List.set_cons_succ, s_lload, ldL_s, s_lconst0, s_lconst1, s_lcmp, l2_s, s_ifCond_gt, p1_s, true_and, and_true, Nat.le_refl, true_implies, forall_const, not_false_eq_true, false_implies, not_true_eq_false, reduceCtorEq, tl_s, tl_n, rf_s, List.cons_append, List.nil_append, true_or, or_true, q1.1, e1, e2]
    refine b_cgt (by omega) (by omega) (fun cc => ?_) (fun cc => absurd cc (by omega))
    refine B_Thinning_ownLevel_51 ?_
    simp only [wp_cons, wp_nil, List.getElem?_cons_zero, List.getElem?_cons_succ, List.set_cons_zero, List.set_cons_succ, s_sipush, s_lload, ldL_s, s_lconst0, s_lconst1, s_lsub, l2_s, J_sub, s_ldiv, s_invokestatic, rc_s, ob_s, List.drop_succ_cons, List.drop_zero, List.take_succ_cons, List.take_zero, List.reverse_cons, List.reverse_nil, List.nil_append, List.cons_append, List.length_cons, List.length_nil, Nat.reduceEqDiff, eq_self, reduceIte, p1_s, p2_s, l1_s, d1, Int.reduceToNat, Nat.reduceAdd, Nat.reduceLeDiff, true_and, and_true, Nat.le_refl, true_implies, forall_const, not_false_eq_true, false_implies, not_true_eq_false, reduceCtorEq, tl_s, tl_n, rf_s, true_or, or_true, q1.1, e1, e2]
    refine Plane_root_c (by omega) ?_
    refine B_Thinning_ownLevel_64 ?_
    simp only [wp_cons, wp_nil, List.getElem?_cons_zero, List.getElem?_cons_succ, List.set_cons_zero, List.set_cons_succ, s_invokestatic, rc_s, ob_s, List.drop_succ_cons, List.drop_zero, List.take_succ_cons, List.take_zero, List.reverse_cons, List.reverse_nil, List.nil_append, List.cons_append, List.length_cons, List.length_nil, Nat.reduceEqDiff, eq_self, reduceIte, p1_s, p2_s, l1_s, d1, Int.reduceToNat, Nat.reduceAdd, Nat.reduceLeDiff, s_ireturn, rI_i, rI_z, rI_c, z_01, z_11, rt_Thinning_ownLevel, true_and, and_true, Nat.le_refl, true_implies, forall_const, not_false_eq_true, false_implies, not_true_eq_false, reduceCtorEq, tl_s, tl_n, rf_s, true_or, or_true, q1.1, e1, e2, I_mn (x := 200) (y := rt ((offS (pg S.1 a) (pr S.1 b) (pg S.1 k) - 1) / sclS (pg S.1 a) (pr S.1 b))) (by omega) (by omega)]
    exact hQ
/-! the levels of a piece, and of a stroke -/
theorem Thn_piece {d s a0 : Nat} (d4 : 4 ≤ d) {S : Stk} (w : wfS S) {h0 : g_H} {Q : g_Po} (hd : a0 + 2 ≤ s ∨ s + 2 ≤ a0) : ∀ (n a b : Nat) (c : Int) (g : Nat → Int) (h : g_H) (st : Nat) (x5 x6 x7 : Option Value), b - a ≤ n → a < b → b ≤ pcs S → a < S.1.length → st + (2 * (b - a) - 1) ≤ 60 → stL h s S → thn h a0 g → chg a0 (a0 + 2) h0 h → (∀ j, a < j → j < b → g j = -2) → g a ≠ -2 → g b ≠ -2 → c = min (g a) (g b) →
    (∀ (h' : g_H) (g' : Nat → Int) (st' : Nat) (y5 y6 y7 : Option Value), st' ≤ st + (2 * (b - a) - 1) → stL h' s S → thn h' a0 g' → chg a0 (a0 + 2) h0 h' → (∀ j, (j ≤ a ∨ b ≤ j) → g' j = g j) → (∀ j, a < j → j < b → g' j = lv S n a b c j) → G Thinning_measure d 0 0 0 0 69 [some (.ref a0), some (.ref s), some (.int (I (pcs S : Int))), some (.int (I (b : Int))), some (.int (I (st' : Int))), y5, y6, y7] [] h' Q) →
    G Thinning_measure d 0 0 0 0 69 [some (.ref a0), some (.ref s), some (.int (I (pcs S : Int))), some (.int (I (a : Int))), some (.int (I (st : Int))), x5, x6, x7] [] h Q := by
  have d1 : 1 ≤ d := by omega
  obtain ⟨w1, w2, w3, w4, w5⟩ := id w
  have hpc := pcs_le (S := S)
  intro n
  induction n with
  | zero => intro a b c g h st x5 x6 x7 hn hab; omega
  | succ n ih =>
    intro a b c g h st x5 x6 x7 hn hab hb hal hst hs ht hc hg hga hgb hcm hK
    obtain ⟨q1, q2, q3⟩ := id ht
    obtain ⟨f, k1, k2, k3⟩ := id hs
    have r1 := q3 a (by omega)
    have r2 := q3 b (by omega)
    refine B_Thinning_measure_69 ?_
    simp only [wp_cons, wp_nil, List.getElem?_cons_zero, List.getElem?_cons_succ, List.set_cons_zero, List.set_cons_succ, s_iload, ldI_s, s_iconst, s_aload_n0, ldA_r, ldA_n, ldA_s, s_getfield, pR_s, ob_s, gt_s, s_arraylength, al_0, al_1, al_2, al_3, s_imul, p2_s, I_mul, s_if_icmp_ge, true_and, and_true, Nat.le_refl, true_implies, forall_const, not_false_eq_true, false_implies, not_true_eq_false, reduceCtorEq, tl_s, tl_n, rf_s, List.cons_append, List.nil_append, true_or, or_true, q1, q2, k1.1]
    refine b_le (by omega) (by omega) (fun cc => absurd cc (by omega)) (fun cc => ?_)
    refine B_Thinning_measure_81 ?_
    simp only [wp_cons, wp_nil, List.getElem?_cons_zero, List.getElem?_cons_succ, List.set_cons_zero, List.set_cons_succ, s_iload_n3, ldI_s, s_iload_n2, s_if_icmp_ge, p2_s, true_and, and_true, Nat.le_refl, true_implies, forall_const, not_false_eq_true, false_implies, not_true_eq_false, reduceCtorEq, tl_s, tl_n, rf_s, List.cons_append, List.nil_append, true_or, or_true, q1, q2, k1.1]
    refine b_le (by omega) (by omega) (fun cc => absurd cc (by omega)) (fun cc => ?_)
    refine B_Thinning_measure_86 ?_
    simp only [wp_cons, wp_nil, List.getElem?_cons_zero, List.getElem?_cons_succ, List.set_cons_zero, List.set_cons_succ, s_aload_n0, ldA_r, ldA_n, ldA_s, s_iload_n3, ldI_s, s_iload_n2, s_invokevirtual, rc_s, ob_s, List.drop_succ_cons, List.drop_zero, List.take_succ_cons, List.take_zero, List.reverse_cons, List.reverse_nil, List.nil_append, List.cons_append, List.length_cons, List.length_nil, d1, Int.reduceToNat, Nat.reduceAdd, Nat.reduceLeDiff, true_and, and_true, Nat.le_refl, true_implies, forall_const, not_false_eq_true, false_implies, not_true_eq_false, reduceCtorEq, tl_s, tl_n, rf_s, true_or, or_true, q1, q2, k1.1]
    refine Thn_next_c (by omega) ht hab hb (by omega) hg (fun _ => hgb) ?_
    refine B_Thinning_measure_92 ?_
    simp only [wp_cons, wp_nil, List.getElem?_cons_zero, List.getElem?_cons_succ, List.set_cons_zero, List.set_cons_succ, s_istore, p1_s, s1_0, s1_s, kx_i, kx_r, kx_s, kx_n, kx_l, kx_0, s_aload_n1, ldA_r, ldA_n, ldA_s, s_iload_n3, ldI_s, s_iload, s_invokestatic, rc_s, ob_s, List.drop_succ_cons, List.drop_zero, List.take_succ_cons, List.take_zero, List.reverse_cons, List.reverse_nil, List.nil_append, List.cons_append, List.length_cons, List.length_nil, Nat.reduceEqDiff, eq_self, reduceIte, p2_s, l1_s, d1, Int.reduceToNat, Nat.reduceAdd, Nat.reduceLeDiff, true_and, and_true, Nat.le_refl, true_implies, forall_const, not_false_eq_true, false_implies, not_true_eq_false, reduceCtorEq, tl_s, tl_n, rf_s, true_or, or_true, q1, q2, k1.1]
    refine Thn_fb_c (by omega) hs w3 hal (by omega) ?_
    by_cases e : b ≤ a + 1
    · rw [if_pos e]
      refine B_Thinning_measure_101 ?_
      simp only [wp_cons, wp_nil, List.getElem?_cons_zero, List.getElem?_cons_succ, List.set_cons_zero, List.set_cons_succ, s_istore, p1_s, s1_0, s1_s, kx_i, kx_r, kx_s, kx_n, kx_l, kx_0, s_iload, ldI_s, s_bipush, s_if_icmp_ne, p2_s, true_and, and_true, Nat.le_refl, true_implies, forall_const, not_false_eq_true, false_implies, not_true_eq_false, reduceCtorEq, tl_s, tl_n, rf_s, List.cons_append, List.nil_append, true_or, or_true, q1, q2, k1.1]
      refine B_Thinning_measure_110 ?_
      simp only [wp_cons, wp_nil, List.getElem?_cons_zero, List.getElem?_cons_succ, List.set_cons_zero, List.set_cons_succ, s_iload, ldI_s, s_istore_n3, p1_s, s1_0, s1_s, kx_i, kx_r, kx_s, kx_n, kx_l, kx_0, s_goto, true_and, and_true, Nat.le_refl, true_implies, forall_const, not_false_eq_true, false_implies, not_true_eq_false, reduceCtorEq, tl_s, tl_n, rf_s, List.cons_append, List.nil_append, true_or, or_true, q1, q2, k1.1]
      refine B_Thinning_measure_152 ?_
      simp only [wp_cons, wp_nil, List.getElem?_cons_zero, List.getElem?_cons_succ, List.set_cons_zero, List.set_cons_succ, s_iinc, ldI_s, s1_0, s1_s, kx_i, kx_r, kx_s, kx_n, kx_l, kx_0, I_add, s_goto, true_and, and_true, Nat.le_refl, true_implies, forall_const, not_false_eq_true, false_implies, not_true_eq_false, reduceCtorEq, tl_s, tl_n, rf_s, List.cons_append, List.nil_append, true_or, or_true, q1, q2, k1.1]
      exact hK h g (st + 1) _ _ _ (by omega) hs ht hc (fun j _ => rfl) (fun j h1 h2 => absurd h2 (by omega))
    · have r3 := frS_rng S (a := a) (b := b) (by omega)
      have r4 := own_rng (pg S.1 a) (pr S.1 b) (pg S.1 (frS S a b)) (w3 a hal) (pr_pt w3 (by omega)) (w3 _ (by omega))
      rw [if_neg e]
      refine B_Thinning_measure_101 ?_
      simp only [wp_cons, wp_nil, List.getElem?_cons_zero, List.getElem?_cons_succ, List.set_cons_zero, List.set_cons_succ, s_istore, p1_s, s1_0, s1_s, kx_i, kx_r, kx_s, kx_n, kx_l, kx_0, s_iload, ldI_s, s_bipush, s_if_icmp_ne, p2_s, true_and, and_true, Nat.le_refl, true_implies, forall_const, not_false_eq_true, false_implies, not_true_eq_false, reduceCtorEq, tl_s, tl_n, rf_s, List.cons_append, List.nil_append, true_or, or_true, q1, q2, k1.1]
      refine b_ne (by omega) (by omega) (fun cc => ?_) (fun cc => absurd cc (by omega))
      refine B_Thinning_measure_116 ?_
      simp only [wp_cons, wp_nil, List.getElem?_cons_zero, List.getElem?_cons_succ, List.set_cons_zero, List.set_cons_succ, s_aload_n0, ldA_r, ldA_n, ldA_s, s_iload_n3, ldI_s, s_invokevirtual, rc_s, ob_s, List.drop_succ_cons, List.drop_zero, List.take_succ_cons, List.take_zero, List.reverse_cons, List.reverse_nil, List.nil_append, List.cons_append, List.length_cons, List.length_nil, d1, Int.reduceToNat, Nat.reduceAdd, Nat.reduceLeDiff, true_and, and_true, Nat.le_refl, true_implies, forall_const, not_false_eq_true, false_implies, not_true_eq_false, reduceCtorEq, tl_s, tl_n, rf_s, true_or, or_true, q1, q2, k1.1]
      refine Thn_level_c ht (by omega) ?_
      refine B_Thinning_measure_121 ?_
      simp only [wp_cons, wp_nil, List.getElem?_cons_zero, List.getElem?_cons_succ, List.set_cons_zero, List.set_cons_succ, s_aload_n0, ldA_r, ldA_n, ldA_s, s_iload, ldI_s, s_invokevirtual, rc_s, ob_s, List.drop_succ_cons, List.drop_zero, List.take_succ_cons, List.take_zero, List.reverse_cons, List.reverse_nil, List.nil_append, List.cons_append, List.length_cons, List.length_nil, d1, Int.reduceToNat, Nat.reduceAdd, Nat.reduceLeDiff, true_and, and_true, Nat.le_refl, true_implies, forall_const, not_false_eq_true, false_implies, not_true_eq_false, reduceCtorEq, tl_s, tl_n, rf_s, true_or, or_true, q1, q2, k1.1]
      refine Thn_level_c ht (by omega) ?_
      refine B_Thinning_measure_127 ?_
      simp only [wp_cons, wp_nil, List.getElem?_cons_zero, List.getElem?_cons_succ, List.set_cons_zero, List.set_cons_succ, s_invokestatic, rc_s, ob_s, List.drop_succ_cons, List.drop_zero, List.take_succ_cons, List.take_zero, List.reverse_cons, List.reverse_nil, List.nil_append, List.cons_append, List.length_cons, List.length_nil, Nat.reduceEqDiff, eq_self, reduceIte, p1_s, p2_s, l1_s, d1, Int.reduceToNat, Nat.reduceAdd, Nat.reduceLeDiff, s_istore, s1_0, s1_s, kx_i, kx_r, kx_s, kx_n, kx_l, kx_0, s_aload_n0, ldA_r, ldA_n, ldA_s, s_iload, ldI_s, s_aload_n1, s_iload_n3, true_and, and_true, Nat.le_refl, true_implies, forall_const, not_false_eq_true, false_implies, not_true_eq_false, reduceCtorEq, tl_s, tl_n, rf_s, true_or, or_true, q1, q2, k1.1, I_mn (x := g a) (y := g b) (by omega) (by omega)]
      refine Thn_own_c (by omega) hs w3 hal (by omega) (by omega) ?_
      refine B_Thinning_measure_146 ?_
      simp only [wp_cons, wp_nil, List.getElem?_cons_zero, List.getElem?_cons_succ, List.set_cons_zero, List.set_cons_succ, s_invokestatic, rc_s, ob_s, List.drop_succ_cons, List.drop_zero, List.take_succ_cons, List.take_zero, List.reverse_cons, List.reverse_nil, List.nil_append, List.cons_append, List.length_cons, List.length_nil, Nat.reduceEqDiff, eq_self, reduceIte, p1_s, p2_s, l1_s, d1, Int.reduceToNat, Nat.reduceAdd, Nat.reduceLeDiff, s_invokevirtual, true_and, and_true, Nat.le_refl, true_implies, forall_const, not_false_eq_true, false_implies, not_true_eq_false, reduceCtorEq, tl_s, tl_n, rf_s, true_or, or_true, q1, q2, k1.1, I_mn (x := min (g a) (g b)) (y := ownS (pg S.1 a) (pr S.1 b) (pg S.1 (frS S a b))) (by omega) (by omega)]
      rw [← hcm]
      have hl : -2 < min c (owS S a b) ∧ min c (owS S a b) ≤ 200 := by unfold owS; omega
      refine Thn_set_c ht (by omega) (v := min c (owS S a b)) (by omega) (fun h1 c1 ht1 => ?_)
      have hs1 := hs.kp c1 (by omega)
      obtain ⟨p1, p2, p3⟩ := id ht1
      obtain ⟨f1, l1, l2, l3⟩ := id hs1
      refine B_Thinning_measure_152 ?_
      simp only [wp_cons, wp_nil, List.getElem?_cons_zero, List.getElem?_cons_succ, List.set_cons_zero, List.set_cons_succ, s_iinc, ldI_s, s1_0, s1_s, kx_i, kx_r, kx_s, kx_n, kx_l, kx_0, I_add, s_goto, true_and, and_true, Nat.le_refl, true_implies, forall_const, not_false_eq_true, false_implies, not_true_eq_false, reduceCtorEq, tl_s, tl_n, rf_s, List.cons_append, List.nil_append, true_or, or_true, p1, p2, l1.1]
      have e1 : frS S a b - a ≤ n := by omega
      refine ih a (frS S a b) (min c (owS S a b)) (ui g (frS S a b) (min c (owS S a b))) h1 (st + 1) _ _ _ (by omega) (by omega) (by omega) (by omega) (by omega) hs1 ht1 (hc.tr c1) (fun j h1 h2 => ?_) ?_ ?_ ?_ ?_
      · rw [ui_n _ _ (by omega)]; exact hg j h1 (by omega)
      · rw [ui_n _ _ (by omega)]; exact hga
      · rw [ui_s]; omega
      · rw [ui_n _ _ (by omega), ui_s]; omega
      · intro h2 g2 st2 y5 y6 y7 m1 hs2 ht2 hc2 m2 m3
        refine ih (frS S a b) b (min c (owS S a b)) g2 h2 st2 _ _ _ (by omega) (by omega) (by omega) (by omega) (by omega) hs2 ht2 hc2 (fun j h1 h2 => ?_) ?_ ?_ ?_ ?_
        · rw [m2 j (by omega), ui_n _ _ (by omega)]; exact hg j (by omega) h2
        · rw [m2 _ (by omega), ui_s]; omega
        · rw [m2 b (by omega), ui_n _ _ (by omega)]; exact hgb
        · rw [m2 _ (by omega), m2 b (by omega), ui_s, ui_n _ _ (by omega)]; omega
        · intro h3 g3 st3 z5 z6 z7 n1 hs3 ht3 hc3 n2 n3
          refine hK h3 g3 st3 z5 z6 z7 (by omega) hs3 ht3 hc3 (fun j hj => ?_) (fun j h4 h5 => ?_)
          · rw [n2 j (by omega), m2 j (by omega), ui_n _ _ (by omega)]
          · unfold lv
            rw [if_neg e]
            by_cases e2 : j = frS S a b
            · rw [if_pos e2, e2, n2 _ (by omega), m2 _ (by omega), ui_s]
            · rw [if_neg e2]
              by_cases e3 : j < frS S a b
              · rw [if_pos e3, n2 j (by omega), m3 j h4 e3]
              · rw [if_neg e3]; exact n3 j (by omega) h5
theorem Thn_fill {d s a n : Nat} (d1 : 1 ≤ d) {h0 : g_H} {Q : g_Po} (x4 x5 x6 x7 : Option Value) (hQ : ∀ (h' : g_H) (g' : Nat → Int), chg a (a + 2) h0 h' → thn h' a g' → (∀ j, j < 31 → g' j = -2) → G Thinning_measure d 0 0 0 0 30 [some (.ref a), some (.ref s), some (.int (I (n : Int))), some (.int (I ((31 : Nat) : Int))), x4, x5, x6, x7] [] h' Q) : ∀ (m i : Nat) (h : g_H) (g : Nat → Int), i + m = 31 → chg a (a + 2) h0 h → thn h a g → (∀ j, j < i → g j = -2) →
    G Thinning_measure d 0 0 0 0 7 [some (.ref a), some (.ref s), some (.int (I (n : Int))), some (.int (I (i : Int))), x4, x5, x6, x7] [] h Q := by
  intro m
  induction m with
  | zero =>
    intro i h g hi hc ht hg
    obtain ⟨q1, q2, q3⟩ := id ht
    obtain rfl : i = 31 := by omega
    refine B_Thinning_measure_7 ?_
    simp only [wp_cons, wp_nil, List.getElem?_cons_zero, List.getElem?_cons_succ, List.set_cons_zero, List.set_cons_succ, s_iload_n3, ldI_s, s_aload_n0, ldA_r, ldA_n, ldA_s, s_getfield, pR_s, ob_s, gt_s, s_arraylength, al_0, al_1, al_2, al_3, s_if_icmp_ge, p2_s, true_and, and_true, Nat.le_refl, true_implies, forall_const, not_false_eq_true, false_implies, not_true_eq_false, reduceCtorEq, tl_s, tl_n, rf_s, List.cons_append, List.nil_append, true_or, or_true, q1, q2]
    refine b_le (by omega) (by omega) (fun cc => hQ h g hc ht hg) (fun cc => absurd cc (by omega))
  | succ m ih =>
    intro i h g hi hc ht hg
    obtain ⟨q1, q2, q3⟩ := id ht
    refine B_Thinning_measure_7 ?_
    simp only [wp_cons, wp_nil, List.getElem?_cons_zero, List.getElem?_cons_succ, List.set_cons_zero, List.set_cons_succ, s_iload_n3, ldI_s, s_aload_n0, ldA_r, ldA_n, ldA_s, s_getfield, pR_s, ob_s, gt_s, s_arraylength, al_0, al_1, al_2, al_3, s_if_icmp_ge, p2_s, true_and, and_true, Nat.le_refl, true_implies, forall_const, not_false_eq_true, false_implies, not_true_eq_false, reduceCtorEq, tl_s, tl_n, rf_s, List.cons_append, List.nil_append, true_or, or_true, q1, q2]
    refine b_le (by omega) (by omega) (fun cc => absurd cc (by omega)) (fun cc => ?_)
    refine B_Thinning_measure_16 ?_
    simp only [wp_cons, wp_nil, List.getElem?_cons_zero, List.getElem?_cons_succ, List.set_cons_zero, List.set_cons_succ, s_aload_n0, ldA_r, ldA_n, ldA_s, s_getfield, pR_s, ob_s, gt_s, s_iload_n3, ldI_s, s_bipush, s_iastore, iiR_s, ia_s, s_iinc, s1_0, s1_s, kx_i, kx_r, kx_s, kx_n, kx_l, kx_0, I_add, s_goto, true_and, and_true, Nat.le_refl, true_implies, forall_const, not_false_eq_true, false_implies, not_true_eq_false, reduceCtorEq, tl_s, tl_n, rf_s, List.cons_append, List.nil_append, true_or, or_true, q1, q2]
    refine ⟨i, by omega, rfl, ?_⟩
    refine ih (i + 1) _ (ui g i (-2)) (by omega) (hc.tr (chg.set _ (by omega))) (ht.st (by omega)) (fun j hj => ?_)
    by_cases e : j = i
    · rw [e, ui_s]
    · rw [ui_n _ _ e]; exact hg j (by omega)
theorem Thn_measure_c {d s a : Nat} (d4 : 4 ≤ d) {S : Stk} (w : wfS S) {h : g_H} {Q : g_Po} (hd : a + 2 ≤ s ∨ s + 2 ≤ a) (hs : stL h s S) (ht : thnX h a) (hQ : ∀ h' g', chg a (a + 2) h h' → thn h' a g' → (∀ k, k < S.1.length → g' k = levS S k) → Q none h') : Call Thinning_measure d 0 0 [.ref a, .ref s] h Q := by
  have d1 : 1 ≤ d := by omega
  obtain ⟨w1, w2, w3, w4, w5⟩ := id w
  obtain ⟨f, k1, k2, k3⟩ := id hs
  obtain ⟨g, ht⟩ := ht
  obtain ⟨q1, q2, q3⟩ := id ht
  have hpc : pcs S = S.1.length ∨ pcs S + 1 = S.1.length := by unfold pcs; split <;> omega
  refine Call.intro (by rfl) (Nat.le_of_ble_eq_true rfl) ?_
  refine G.eqL (L := [some (.ref _), some (.ref _), none, none, none, none, none, none]) rfl ?_
  refine B_Thinning_measure_0 ?_
  simp only [wp_cons, wp_nil, List.getElem?_cons_zero, List.getElem?_cons_succ, List.set_cons_zero, List.set_cons_succ, s_aload_n1, ldA_r, ldA_n, ldA_s, s_invokevirtual, rc_s, ob_s, List.drop_succ_cons, List.drop_zero, List.take_succ_cons, List.take_zero, List.reverse_cons, List.reverse_nil, List.nil_append, List.cons_append, List.length_cons, List.length_nil, d1, Int.reduceToNat, Nat.reduceAdd, Nat.reduceLeDiff, true_and, and_true, Nat.le_refl, true_implies, forall_const, not_false_eq_true, false_implies, not_true_eq_false, reduceCtorEq, tl_s, tl_n, rf_s, true_or, or_true, q1, q2, k1.1]
  refine Stroke_pieceCount_c hs (by omega) ?_
  refine B_Thinning_measure_4 ?_
  simp only [wp_cons, wp_nil, List.getElem?_cons_zero, List.getElem?_cons_succ, List.set_cons_zero, List.set_cons_succ, s_istore_n2, p1_s, s1_0, s1_s, kx_i, kx_r, kx_s, kx_n, kx_l, kx_0, s_iconst, s_istore_n3, true_and, and_true, Nat.le_refl, true_implies, forall_const, not_false_eq_true, false_implies, not_true_eq_false, reduceCtorEq, tl_s, tl_n, rf_s, List.cons_append, List.nil_append, true_or, or_true, q1, q2, k1.1]
  refine Thn_fill d1 _ _ _ _ (fun h1 g1 c1 t1 z1 => ?_) 31 0 h g (by omega) chg.rf ht (fun j hj => absurd hj (by omega))
  obtain ⟨p1, p2, p3⟩ := id t1
  have s1 := hs.kp c1 (by omega)
  refine B_Thinning_measure_30 ?_
  simp only [wp_cons, wp_nil, List.getElem?_cons_zero, List.getElem?_cons_succ, List.set_cons_zero, List.set_cons_succ, s_aload_n0, ldA_r, ldA_n, ldA_s, s_iconst, s_sipush, s_invokevirtual, rc_s, ob_s, List.drop_succ_cons, List.drop_zero, List.take_succ_cons, List.take_zero, List.reverse_cons, List.reverse_nil, List.nil_append, List.cons_append, List.length_cons, List.length_nil, d1, Int.reduceToNat, Nat.reduceAdd, Nat.reduceLeDiff, true_and, and_true, Nat.le_refl, true_implies, forall_const, not_false_eq_true, false_implies, not_true_eq_false, reduceCtorEq, tl_s, tl_n, rf_s, true_or, or_true, p1, p2]
  refine Thn_set_c (i := 0) (v := 200) t1 (by omega) (by omega) (fun h2 c2 t2 => ?_)
  obtain ⟨p1, p2, p3⟩ := id t2
  have s2 := s1.kp c2 (by omega)
  refine B_Thinning_measure_38 ?_
  simp only [wp_cons, wp_nil, List.getElem?_cons_zero, List.getElem?_cons_succ, List.set_cons_zero, List.set_cons_succ, s_aload_n0, ldA_r, ldA_n, ldA_s, s_iload_n2, ldI_s, s_sipush, s_invokevirtual, rc_s, ob_s, List.drop_succ_cons, List.drop_zero, List.take_succ_cons, List.take_zero, List.reverse_cons, List.reverse_nil, List.nil_append, List.cons_append, List.length_cons, List.length_nil, d1, Int.reduceToNat, Nat.reduceAdd, Nat.reduceLeDiff, true_and, and_true, Nat.le_refl, true_implies, forall_const, not_false_eq_true, false_implies, not_true_eq_false, reduceCtorEq, tl_s, tl_n, rf_s, true_or, or_true, p1, p2]
  refine Thn_set_c (v := 200) t2 (by omega) (by omega) (fun h3 c3 t3 => ?_)
  obtain ⟨p1, p2, p3⟩ := id t3
  have s3 := s2.kp c3 (by omega)
  obtain ⟨f3, l1, l2, l3⟩ := id s3
  have c123 := (c1.tr c2).tr c3
  have gg : ∀ j, ui (ui g1 0 200) (pcs S) 200 j = if j = pcs S ∨ j = 0 then 200 else g1 j := fun j => by
    unfold ui
    by_cases e1 : j = pcs S
    · rw [if_pos e1, if_pos (Or.inl e1)]
    · rw [if_neg e1]
      by_cases e2 : j = 0
      · rw [if_pos e2, if_pos (Or.inr e2)]
      · rw [if_neg e2, if_neg (by omega)]
  by_cases hz : S.2 = true
  · have hz1 : sz S.2 = 1 := by unfold sz; rw [if_pos hz]
    have hf := ffS_rng w
    have hpc2 : pcs S = S.1.length := by unfold pcs; rw [if_pos hz]
    refine B_Thinning_measure_46 ?_
    simp only [wp_cons, wp_nil, List.getElem?_cons_zero, List.getElem?_cons_succ, List.set_cons_zero, List.set_cons_succ, s_aload_n1, ldA_r, ldA_n, ldA_s, s_getfield, pR_s, ob_s, gt_s, s_ifCond_eq, p1_s, true_and, and_true, Nat.le_refl, true_implies, forall_const, not_false_eq_true, false_implies, not_true_eq_false, reduceCtorEq, tl_s, tl_n, rf_s, List.cons_append, List.nil_append, true_or, or_true, p1, p2, l1.1]
    refine b_eq (by omega) (by omega) (fun cc => absurd cc (by omega)) (fun cc => ?_)
    refine B_Thinning_measure_53 ?_
    simp only [wp_cons, wp_nil, List.getElem?_cons_zero, List.getElem?_cons_succ, List.set_cons_zero, List.set_cons_succ, s_aload_n0, ldA_r, ldA_n, ldA_s, s_aload_n1, s_invokestatic, rc_s, ob_s, List.drop_succ_cons, List.drop_zero, List.take_succ_cons, List.take_zero, List.reverse_cons, List.reverse_nil, List.nil_append, List.cons_append, List.length_cons, List.length_nil, Nat.reduceEqDiff, eq_self, reduceIte, p1_s, p2_s, l1_s, d1, Int.reduceToNat, Nat.reduceAdd, Nat.reduceLeDiff, true_and, and_true, Nat.le_refl, true_implies, forall_const, not_false_eq_true, false_implies, not_true_eq_false, reduceCtorEq, tl_s, tl_n, rf_s, true_or, or_true, p1, p2, l1.1]
    refine Thn_ff_c (by omega) s3 (by omega) w3 ?_
    refine B_Thinning_measure_58 ?_
    simp only [wp_cons, wp_nil, List.getElem?_cons_zero, List.getElem?_cons_succ, List.set_cons_zero, List.set_cons_succ, s_sipush, s_invokevirtual, rc_s, ob_s, List.drop_succ_cons, List.drop_zero, List.take_succ_cons, List.take_zero, List.reverse_cons, List.reverse_nil, List.nil_append, List.cons_append, List.length_cons, List.length_nil, d1, Int.reduceToNat, Nat.reduceAdd, Nat.reduceLeDiff, true_and, and_true, Nat.le_refl, true_implies, forall_const, not_false_eq_true, false_implies, not_true_eq_false, reduceCtorEq, tl_s, tl_n, rf_s, true_or, or_true, p1, p2, l1.1]
    refine Thn_set_c (v := 200) t3 (by omega) (by omega) (fun h4 c4 t4 => ?_)
    have s4 := s3.kp c4 (by omega)
    obtain ⟨p1, p2, p3⟩ := id t4
    obtain ⟨f4, l1, l2, l3⟩ := id s4
    refine B_Thinning_measure_64 ?_
    simp only [wp_cons, wp_nil, List.getElem?_cons_zero, List.getElem?_cons_succ, List.set_cons_zero, List.set_cons_succ, s_iconst, s_istore_n3, p1_s, s1_0, s1_s, kx_i, kx_r, kx_s, kx_n, kx_l, kx_0, s_istore, true_and, and_true, Nat.le_refl, true_implies, forall_const, not_false_eq_true, false_implies, not_true_eq_false, reduceCtorEq, tl_s, tl_n, rf_s, List.cons_append, List.nil_append, true_or, or_true, p1, p2, l1.1]
    refine Thn_piece d4 w (h0 := h) hd 31 0 (ffS S) 200 _ h4 0 _ _ _ (by omega) (by omega) (by omega) (by omega) (by omega) s4 t4 (c123.tr c4) (fun j h1 h2 => ?_) ?_ ?_ ?_ (fun h5 g5 st5 y5 y6 y7 m1 s5 t5 c5 m2 m3 => ?_)
    · rw [ui_n _ _ (by omega), gg, if_neg (by omega), z1 j (by omega)]
    · rw [ui_n _ _ (by omega), gg, if_pos (by omega)]; omega
    · rw [ui_s]; omega
    · rw [ui_s, ui_n _ _ (by omega), gg, if_pos (by omega)]; rfl
    refine Thn_piece d4 w (h0 := h) hd 31 (ffS S) (pcs S) 200 _ h5 st5 _ _ _ (by omega) (by omega) (by omega) (by omega) (by omega) s5 t5 c5 (fun j h1 h2 => ?_) ?_ ?_ ?_ (fun h6 g6 st6 y5 y6 y7 n1 s6 t6 c6 n2 n3 => ?_)
    · rw [m2 j (by omega), ui_n _ _ (by omega), gg, if_neg (by omega), z1 j (by omega)]
    · rw [m2 _ (by omega), ui_s]; omega
    · rw [m2 _ (by omega), ui_n _ _ (by omega), gg, if_pos (by omega)]; omega
    · rw [m2 _ (by omega), m2 (pcs S) (by omega), ui_s, ui_n _ _ (by omega), gg, if_pos (by omega)]; rfl
    obtain ⟨p1, p2, p3⟩ := id t6
    refine B_Thinning_measure_69 ?_
    simp only [wp_cons, wp_nil, List.getElem?_cons_zero, List.getElem?_cons_succ, List.set_cons_zero, List.set_cons_succ, s_iload, ldI_s, s_iconst, s_aload_n0, ldA_r, ldA_n, ldA_s, s_getfield, pR_s, ob_s, gt_s, s_arraylength, al_0, al_1, al_2, al_3, s_imul, p2_s, I_mul, s_if_icmp_ge, true_and, and_true, Nat.le_refl, true_implies, forall_const, not_false_eq_true, false_implies, not_true_eq_false, reduceCtorEq, tl_s, tl_n, rf_s, List.cons_append, List.nil_append, true_or, or_true, p1, p2, l1.1]
    refine b_le (by omega) (by omega) (fun cc => absurd cc (by omega)) (fun cc => ?_)
    refine B_Thinning_measure_81 ?_
    simp only [wp_cons, wp_nil, List.getElem?_cons_zero, List.getElem?_cons_succ, List.set_cons_zero, List.set_cons_succ, s_iload_n3, ldI_s, s_iload_n2, s_if_icmp_ge, p2_s, true_and, and_true, Nat.le_refl, true_implies, forall_const, not_false_eq_true, false_implies, not_true_eq_false, reduceCtorEq, tl_s, tl_n, rf_s, List.cons_append, List.nil_append, true_or, or_true, p1, p2, l1.1]
    refine b_le (by omega) (by omega) (fun cc => ?_) (fun cc => absurd cc (by omega))
    refine B_Thinning_measure_158 ?_
    simp only [wp_cons, wp_nil, List.getElem?_cons_zero, List.getElem?_cons_succ, List.set_cons_zero, List.set_cons_succ, s_return_, rt_Thinning_measure, true_and, and_true, Nat.le_refl, true_implies, forall_const, not_false_eq_true, false_implies, not_true_eq_false, reduceCtorEq, tl_s, tl_n, rf_s, List.cons_append, List.nil_append, true_or, or_true, p1, p2, l1.1]
    refine hQ h6 g6 c6 t6 (fun k hk => ?_)
    unfold levS
    by_cases e1 : k = 0
    · rw [if_pos (Or.inl e1), n2 k (by omega), m2 k (by omega), ui_n _ _ (by omega), gg, if_pos (by omega)]
    · rw [if_neg (by omega), if_pos hz]
      by_cases e2 : k = ffS S
      · rw [if_pos e2, n2 k (by omega), m2 k (by omega), e2, ui_s]
      · rw [if_neg e2]
        by_cases e3 : k < ffS S
        · rw [if_pos e3, n2 k (by omega), m3 k (by omega) e3]
        · rw [if_neg e3, n3 k (by omega) (by omega)]
  · have hz1 : sz S.2 = 0 := by unfold sz; rw [if_neg hz]
    have hpc2 : pcs S + 1 = S.1.length := by unfold pcs; rw [if_neg hz]; omega
    rw [hz1] at l1
    refine B_Thinning_measure_46 ?_
    simp only [wp_cons, wp_nil, List.getElem?_cons_zero, List.getElem?_cons_succ, List.set_cons_zero, List.set_cons_succ, s_aload_n1, ldA_r, ldA_n, ldA_s, s_getfield, pR_s, ob_s, gt_s, s_ifCond_eq, p1_s, true_and, and_true, Nat.le_refl, true_implies, forall_const, not_false_eq_true, false_implies, not_true_eq_false, reduceCtorEq, tl_s, tl_n, rf_s, List.cons_append, List.nil_append, true_or, or_true, p1, p2, l1.1]
    refine B_Thinning_measure_64 ?_
    simp only [wp_cons, wp_nil, List.getElem?_cons_zero, List.getElem?_cons_succ, List.set_cons_zero, List.set_cons_succ, s_iconst, s_istore_n3, p1_s, s1_0, s1_s, kx_i, kx_r, kx_s, kx_n, kx_l, kx_0, s_istore, true_and, and_true, Nat.le_refl, true_implies, forall_const, not_false_eq_true, false_implies, not_true_eq_false, reduceCtorEq, tl_s, tl_n, rf_s, List.cons_append, List.nil_append, true_or, or_true, p1, p2, l1.1]
    refine Thn_piece d4 w (h0 := h) hd 31 0 (pcs S) 200 _ h3 0 _ _ _ (by omega) (by omega) (by omega) (by omega) (by omega) s3 t3 c123 (fun j h1 h2 => ?_) ?_ ?_ ?_ (fun h6 g6 st6 y5 y6 y7 n1 s6 t6 c6 n2 n3 => ?_)
    · rw [gg, if_neg (by omega), z1 j (by omega)]
    · rw [gg, if_pos (by omega)]; omega
    · rw [gg, if_pos (by omega)]; omega
    · rw [gg, gg, if_pos (by omega), if_pos (by omega)]; rfl
    obtain ⟨p1, p2, p3⟩ := id t6
    refine B_Thinning_measure_69 ?_
    simp only [wp_cons, wp_nil, List.getElem?_cons_zero, List.getElem?_cons_succ, List.set_cons_zero, List.set_cons_succ, s_iload, ldI_s, s_iconst, s_aload_n0, ldA_r, ldA_n, ldA_s, s_getfield, pR_s, ob_s, gt_s, s_arraylength, al_0, al_1, al_2, al_3, s_imul, p2_s, I_mul, s_if_icmp_ge, true_and, and_true, Nat.le_refl, true_implies, forall_const, not_false_eq_true, false_implies, not_true_eq_false, reduceCtorEq, tl_s, tl_n, rf_s, List.cons_append, List.nil_append, true_or, or_true, p1, p2, l1.1]
    refine b_le (by omega) (by omega) (fun cc => absurd cc (by omega)) (fun cc => ?_)
    refine B_Thinning_measure_81 ?_
    simp only [wp_cons, wp_nil, List.getElem?_cons_zero, List.getElem?_cons_succ, List.set_cons_zero, List.set_cons_succ, s_iload_n3, ldI_s, s_iload_n2, s_if_icmp_ge, p2_s, true_and, and_true, Nat.le_refl, true_implies, forall_const, not_false_eq_true, false_implies, not_true_eq_false, reduceCtorEq, tl_s, tl_n, rf_s, List.cons_append, List.nil_append, true_or, or_true, p1, p2, l1.1]
    refine b_le (by omega) (by omega) (fun cc => ?_) (fun cc => absurd cc (by omega))
    refine B_Thinning_measure_158 ?_
    simp only [wp_cons, wp_nil, List.getElem?_cons_zero, List.getElem?_cons_succ, List.set_cons_zero, List.set_cons_succ, s_return_, rt_Thinning_measure, true_and, and_true, Nat.le_refl, true_implies, forall_const, not_false_eq_true, false_implies, not_true_eq_false, reduceCtorEq, tl_s, tl_n, rf_s, List.cons_append, List.nil_append, true_or, or_true, p1, p2, l1.1]
    refine hQ h6 g6 c6 t6 (fun k hk => ?_)
    unfold levS
    by_cases e1 : k = 0 ∨ k = pcs S
    · rw [if_pos e1, n2 k (by omega), gg, if_pos (by omega)]
    · rw [if_neg e1, if_neg hz, n3 k (by omega) (by omega)]
theorem Thn_thin_l {d s a r : Nat} {t : Int} (d2 : 2 ≤ d) {S : Stk} (w : wfS S) {h0 : g_H} {Q : g_Po} {g : Nat → Int} (har : a + 2 ≤ r ∨ r + 2 ≤ a) (hsr : s + 2 ≤ r ∨ r + 2 ≤ s) (hs : stL h0 s S) (ht : thn h0 a g) (hg : ∀ k, k < S.1.length → g k = levS S k) (htt : 0 ≤ t ∧ t ≤ 200)
    (hQ : ∀ h', chg r (r + 2) h0 h' → stL h' r (picS S t, S.2) → G Thinning_thin d 0 0 0 0 50 [some (.ref a), some (.ref s), some (.int (I t)), some (.ref r), some (.int (I (S.1.length : Int)))] [] h' Q) : ∀ (m i : Nat) (h : g_H), i + m = S.1.length → chg r (r + 2) h0 h → stL h r (pick (fun i => decide (t ≤ levS S i)) S.1 i, S.2) →
    G Thinning_thin d 0 0 0 0 15 [some (.ref a), some (.ref s), some (.int (I t)), some (.ref r), some (.int (I (i : Int)))] [] h Q := by
  have d1 : 1 ≤ d := by omega
  obtain ⟨w1, w2, w3, w4, w5⟩ := id w
  intro m
  induction m with
  | zero =>
    intro i h hi hc hr
    obtain ⟨f, k1, k2, k3⟩ := hs.kp hc (by omega)
    obtain rfl : i = S.1.length := by omega
    refine B_Thinning_thin_15 ?_
    simp only [wp_cons, wp_nil, List.getElem?_cons_zero, List.getElem?_cons_succ, List.set_cons_zero, List.set_cons_succ, s_iload, ldI_s, s_aload_n1, ldA_r, ldA_n, ldA_s, s_getfield, pR_s, ob_s, gt_s, s_if_icmp_ge, p2_s, true_and, and_true, Nat.le_refl, true_implies, forall_const, not_false_eq_true, false_implies, not_true_eq_false, reduceCtorEq, tl_s, tl_n, rf_s, List.cons_append, List.nil_append, true_or, or_true, k1.1]
    refine b_le (by omega) (by omega) (fun cc => hQ h hc hr) (fun cc => absurd cc (by omega))
  | succ m ih =>
    intro i h hi hc hr
    have s1 := hs.kp hc (by omega)
    have t1 := ht.kp hc (by omega)
    obtain ⟨f, k1, k2, k3⟩ := id s1
    obtain ⟨p1, p2, p3⟩ := id t1
    obtain ⟨fr, l1, l2, l3⟩ := id hr
    have := p3 i (by omega)
    have hl := pick_len (fun i => decide (t ≤ levS S i)) S.1 i
    refine B_Thinning_thin_15 ?_
    simp only [wp_cons, wp_nil, List.getElem?_cons_zero, List.getElem?_cons_succ, List.set_cons_zero, List.set_cons_succ, s_iload, ldI_s, s_aload_n1, ldA_r, ldA_n, ldA_s, s_getfield, pR_s, ob_s, gt_s, s_if_icmp_ge, p2_s, true_and, and_true, Nat.le_refl, true_implies, forall_const, not_false_eq_true, false_implies, not_true_eq_false, reduceCtorEq, tl_s, tl_n, rf_s, List.cons_append, List.nil_append, true_or, or_true, k1.1, p1, p2, l1.1]
    refine b_le (by omega) (by omega) (fun cc => absurd cc (by omega)) (fun cc => ?_)
    refine B_Thinning_thin_24 ?_
    simp only [wp_cons, wp_nil, List.getElem?_cons_zero, List.getElem?_cons_succ, List.set_cons_zero, List.set_cons_succ, s_aload_n0, ldA_r, ldA_n, ldA_s, s_iload, ldI_s, s_invokevirtual, rc_s, ob_s, List.drop_succ_cons, List.drop_zero, List.take_succ_cons, List.take_zero, List.reverse_cons, List.reverse_nil, List.nil_append, List.cons_append, List.length_cons, List.length_nil, d1, Int.reduceToNat, Nat.reduceAdd, Nat.reduceLeDiff, true_and, and_true, Nat.le_refl, true_implies, forall_const, not_false_eq_true, false_implies, not_true_eq_false, reduceCtorEq, tl_s, tl_n, rf_s, true_or, or_true, k1.1, p1, p2, l1.1]
    refine Thn_level_c t1 (by omega) ?_
    by_cases e : t ≤ levS S i
    · have e2 := hg i (by omega)
      refine B_Thinning_thin_30 ?_
      simp only [wp_cons, wp_nil, List.getElem?_cons_zero, List.getElem?_cons_succ, List.set_cons_zero, List.set_cons_succ, s_iload_n2, ldI_s, s_if_icmp_lt, p2_s, true_and, and_true, Nat.le_refl, true_implies, forall_const, not_false_eq_true, false_implies, not_true_eq_false, reduceCtorEq, tl_s, tl_n, rf_s, List.cons_append, List.nil_append, true_or, or_true, k1.1, p1, p2, l1.1]
      refine b_lt (by omega) (by omega) (fun cc => absurd cc (by omega)) (fun cc => ?_)
      refine B_Thinning_thin_34 ?_
      simp only [wp_cons, wp_nil, List.getElem?_cons_zero, List.getElem?_cons_succ, List.set_cons_zero, List.set_cons_succ, s_aload_n3, ldA_r, ldA_n, ldA_s, s_aload_n1, s_iload, ldI_s, s_invokevirtual, rc_s, ob_s, List.drop_succ_cons, List.drop_zero, List.take_succ_cons, List.take_zero, List.reverse_cons, List.reverse_nil, List.nil_append, List.cons_append, List.length_cons, List.length_nil, d1, Int.reduceToNat, Nat.reduceAdd, Nat.reduceLeDiff, true_and, and_true, Nat.le_refl, true_implies, forall_const, not_false_eq_true, false_implies, not_true_eq_false, reduceCtorEq, tl_s, tl_n, rf_s, true_or, or_true, k1.1, p1, p2, l1.1]
      refine Stroke_at_c s1 (by omega) ?_
      refine B_Thinning_thin_41 ?_
      simp only [wp_cons, wp_nil, List.getElem?_cons_zero, List.getElem?_cons_succ, List.set_cons_zero, List.set_cons_succ, s_invokevirtual, rc_s, ob_s, List.drop_succ_cons, List.drop_zero, List.take_succ_cons, List.take_zero, List.reverse_cons, List.reverse_nil, List.nil_append, List.cons_append, List.length_cons, List.length_nil, d1, Int.reduceToNat, Nat.reduceAdd, Nat.reduceLeDiff, true_and, and_true, Nat.le_refl, true_implies, forall_const, not_false_eq_true, false_implies, not_true_eq_false, reduceCtorEq, tl_s, tl_n, rf_s, true_or, or_true, k1.1, p1, p2, l1.1]
      refine Stroke_add_c hr (show (pick (fun i => decide (t ≤ levS S i)) S.1 i).length < 30 by omega) (fun h2 c2 r2 => ?_)
      refine B_Thinning_thin_44 ?_
      simp only [wp_cons, wp_nil, List.getElem?_cons_zero, List.getElem?_cons_succ, List.set_cons_zero, List.set_cons_succ, s_iinc, ldI_s, s1_0, s1_s, kx_i, kx_r, kx_s, kx_n, kx_l, kx_0, I_add, s_goto, true_and, and_true, Nat.le_refl, true_implies, forall_const, not_false_eq_true, false_implies, not_true_eq_false, reduceCtorEq, tl_s, tl_n, rf_s, List.cons_append, List.nil_append, true_or, or_true, k1.1, p1, p2, l1.1]
      refine ih (i + 1) h2 (by omega) (hc.tr c2) ?_
      unfold pick
      rw [if_pos (by simpa using e)]
      exact r2
    · have e2 := hg i (by omega)
      refine B_Thinning_thin_30 ?_
      simp only [wp_cons, wp_nil, List.getElem?_cons_zero, List.getElem?_cons_succ, List.set_cons_zero, List.set_cons_succ, s_iload_n2, ldI_s, s_if_icmp_lt, p2_s, true_and, and_true, Nat.le_refl, true_implies, forall_const, not_false_eq_true, false_implies, not_true_eq_false, reduceCtorEq, tl_s, tl_n, rf_s, List.cons_append, List.nil_append, true_or, or_true, k1.1, p1, p2, l1.1]
      refine b_lt (by omega) (by omega) (fun cc => ?_) (fun cc => absurd cc (by omega))
      refine B_Thinning_thin_44 ?_
      simp only [wp_cons, wp_nil, List.getElem?_cons_zero, List.getElem?_cons_succ, List.set_cons_zero, List.set_cons_succ, s_iinc, ldI_s, s1_0, s1_s, kx_i, kx_r, kx_s, kx_n, kx_l, kx_0, I_add, s_goto, true_and, and_true, Nat.le_refl, true_implies, forall_const, not_false_eq_true, false_implies, not_true_eq_false, reduceCtorEq, tl_s, tl_n, rf_s, List.cons_append, List.nil_append, true_or, or_true, k1.1, p1, p2, l1.1]
      refine ih (i + 1) h (by omega) hc ?_
      unfold pick
      rw [if_neg (by simpa using e), List.append_nil]
      exact hr
theorem Thn_thin_c {d s a r : Nat} {t : Int} (d3 : 3 ≤ d) {S : Stk} (w : wfS S) {h : g_H} {Q : g_Po} {g : Nat → Int} (har : a + 2 ≤ r ∨ r + 2 ≤ a) (hsr : s + 2 ≤ r ∨ r + 2 ≤ s) (hs : stL h s S) (ht : thn h a g) (hr : stX h r) (hg : ∀ k, k < S.1.length → g k = levS S k) (htt : 0 ≤ t ∧ t ≤ 200)
    (hQ : ∀ h', chg r (r + 2) h h' → stL h' r (smpS S t) → Q none h') : Call Thinning_thin d 0 0 [.ref a, .ref s, .int (I t), .ref r] h Q := by
  have d1 : 1 ≤ d := by omega
  obtain ⟨w1, w2, w3, w4, w5⟩ := id w
  have hr0 := hr
  obtain ⟨n0, z0, f0, r0⟩ := hr0
  refine Call.intro (by rfl) (Nat.le_of_ble_eq_true rfl) ?_
  refine G.eqL (L := [some (.ref _), some (.ref _), some (.int _), some (.ref _), none]) rfl ?_
  refine B_Thinning_thin_0 ?_
  simp only [wp_cons, wp_nil, List.getElem?_cons_zero, List.getElem?_cons_succ, List.set_cons_zero, List.set_cons_succ, s_aload_n3, ldA_r, ldA_n, ldA_s, s_invokevirtual, rc_s, ob_s, List.drop_succ_cons, List.drop_zero, List.take_succ_cons, List.take_zero, List.reverse_cons, List.reverse_nil, List.nil_append, List.cons_append, List.length_cons, List.length_nil, d1, Int.reduceToNat, Nat.reduceAdd, Nat.reduceLeDiff, true_and, and_true, Nat.le_refl, true_implies, forall_const, not_false_eq_true, false_implies, not_true_eq_false, reduceCtorEq, tl_s, tl_n, rf_s, true_or, or_true, r0.1]
  refine Stroke_empty_c hr (fun h1 c1 r1 => ?_)
  have s1 := hs.kp c1 (by omega)
  have t1 := ht.kp c1 (by omega)
  obtain ⟨f, k1, k2, k3⟩ := id s1
  obtain ⟨fr, l1, l2, l3⟩ := id r1
  refine B_Thinning_thin_4 ?_
  simp only [wp_cons, wp_nil, List.getElem?_cons_zero, List.getElem?_cons_succ, List.set_cons_zero, List.set_cons_succ, s_aload_n3, ldA_r, ldA_n, ldA_s, s_aload_n1, s_getfield, pR_s, ob_s, gt_s, s_putfield, pv_i, pv_z, pv_r, pv_f, z_01, z_11, List.length_cons, List.length_nil, s_iconst, s_istore, p1_s, s1_0, s1_s, kx_i, kx_r, kx_s, kx_n, kx_l, kx_0, true_and, and_true, Nat.le_refl, true_implies, forall_const, not_false_eq_true, false_implies, not_true_eq_false, reduceCtorEq, tl_s, tl_n, rf_s, List.cons_append, List.nil_append, true_or, or_true, k1.1, l1.1, sz_I, Nat.reduceLT, Nat.reduceAdd]
  have c2 : chg r (r + 2) h1 (h1.set r (.inr (.inr (2, [.ref (r + 1), .int (I (([] : List Int).length : Int)), .int (I (sz S.2))])))) := chg.set _ (by omega)
  refine Thn_thin_l (by omega) w (h0 := h) har hsr hs ht hg htt (fun h3 c3 r3 => ?_) S.1.length 0 _ (by omega) (c1.tr c2) ⟨fr, ⟨h_at _ l1.1, (h_ne _ (by omega)).trans l1.2⟩, l2, l3⟩
  have s3 := hs.kp c3 (by omega)
  obtain ⟨f3, m1, m2, m3⟩ := id s3
  obtain ⟨fr3, n1, n2, n3⟩ := id r3
  have h0 : levS S 0 = 200 := if_pos (Or.inl rfl)
  have hne : 0 < (picS S t).length := pick_ne _ _ (by simp; omega) _ (by omega)
  have hpt : stP (picS S t) := pick_pt _ w3 _ (Nat.le_refl _)
  have hrr := rpt_rng (picS S t) ((picS S t).length - 1) 1
  have hlen : (picS S t).length ≤ 30 := n2
  have hrep : rep (picS S t, S.2) = -6 ∨ (0 ≤ rep (picS S t, S.2) ∧ rep (picS S t, S.2) ≤ 30) := by
    unfold rep
    dsimp only
    split
    · split <;> omega
    · omega
  have hz := sz_bd S.2
  refine B_Thinning_thin_50 ?_
  simp only [wp_cons, wp_nil, List.getElem?_cons_zero, List.getElem?_cons_succ, List.set_cons_zero, List.set_cons_succ, s_aload_n3, ldA_r, ldA_n, ldA_s, s_invokevirtual, rc_s, ob_s, List.drop_succ_cons, List.drop_zero, List.take_succ_cons, List.take_zero, List.reverse_cons, List.reverse_nil, List.nil_append, List.cons_append, List.length_cons, List.length_nil, d1, Int.reduceToNat, Nat.reduceAdd, Nat.reduceLeDiff, true_and, and_true, Nat.le_refl, true_implies, forall_const, not_false_eq_true, false_implies, not_true_eq_false, reduceCtorEq, tl_s, tl_n, rf_s, true_or, or_true, m1.1, n1.1]
  refine Stroke_rep_c (by omega) r3 hne hpt ?_
  unfold smpS at hQ
  by_cases e1 : rep (picS S t, S.2) = -6
  · by_cases e2 : S.2 = true
    · have hz1 : sz S.2 = 1 := by unfold sz; rw [if_pos e2]
      by_cases e3 : (picS S t).length < 3
      · rw [if_pos (Or.inr ⟨e2, e3⟩)] at hQ
        refine B_Thinning_thin_54 ?_
        simp only [wp_cons, wp_nil, List.getElem?_cons_zero, List.getElem?_cons_succ, List.set_cons_zero, List.set_cons_succ, s_bipush, s_if_icmp_ne, p2_s, true_and, and_true, Nat.le_refl, true_implies, forall_const, not_false_eq_true, false_implies, not_true_eq_false, reduceCtorEq, tl_s, tl_n, rf_s, List.cons_append, List.nil_append, true_or, or_true, m1.1, n1.1]
        refine b_ne (by omega) (by omega) (fun cc => absurd cc (by omega)) (fun cc => ?_)
        refine B_Thinning_thin_59 ?_
        simp only [wp_cons, wp_nil, List.getElem?_cons_zero, List.getElem?_cons_succ, List.set_cons_zero, List.set_cons_succ, s_aload_n1, ldA_r, ldA_n, ldA_s, s_getfield, pR_s, ob_s, gt_s, s_ifCond_eq, p1_s, true_and, and_true, Nat.le_refl, true_implies, forall_const, not_false_eq_true, false_implies, not_true_eq_false, reduceCtorEq, tl_s, tl_n, rf_s, List.cons_append, List.nil_append, true_or, or_true, m1.1, n1.1]
        refine b_eq (by omega) (by omega) (fun cc => absurd cc (by omega)) (fun cc => ?_)
        refine B_Thinning_thin_66 ?_
        simp only [wp_cons, wp_nil, List.getElem?_cons_zero, List.getElem?_cons_succ, List.set_cons_zero, List.set_cons_succ, s_aload_n3, ldA_r, ldA_n, ldA_s, s_getfield, pR_s, ob_s, gt_s, s_iconst, s_if_icmp_ge, p2_s, true_and, and_true, Nat.le_refl, true_implies, forall_const, not_false_eq_true, false_implies, not_true_eq_false, reduceCtorEq, tl_s, tl_n, rf_s, List.cons_append, List.nil_append, true_or, or_true, m1.1, n1.1]
        refine b_le (by omega) (by omega) (fun cc => absurd cc (by omega)) (fun cc => ?_)
        refine B_Thinning_thin_74 ?_
        simp only [wp_cons, wp_nil, List.getElem?_cons_zero, List.getElem?_cons_succ, List.set_cons_zero, List.set_cons_succ, s_aload_n3, ldA_r, ldA_n, ldA_s, s_aload_n1, s_invokevirtual, rc_s, ob_s, List.drop_succ_cons, List.drop_zero, List.take_succ_cons, List.take_zero, List.reverse_cons, List.reverse_nil, List.nil_append, List.cons_append, List.length_cons, List.length_nil, d1, Int.reduceToNat, Nat.reduceAdd, Nat.reduceLeDiff, true_and, and_true, Nat.le_refl, true_implies, forall_const, not_false_eq_true, false_implies, not_true_eq_false, reduceCtorEq, tl_s, tl_n, rf_s, true_or, or_true, m1.1, n1.1]
        refine Stroke_copyFrom_c (by omega) r3.x s3 (by omega) (fun h4 c4 r4 => ?_)
        refine B_Thinning_thin_79 ?_
        simp only [wp_cons, wp_nil, List.getElem?_cons_zero, List.getElem?_cons_succ, List.set_cons_zero, List.set_cons_succ, s_return_, rt_Thinning_thin, true_and, and_true, Nat.le_refl, true_implies, forall_const, not_false_eq_true, false_implies, not_true_eq_false, reduceCtorEq, tl_s, tl_n, rf_s, List.cons_append, List.nil_append, true_or, or_true, m1.1, n1.1]
        exact hQ h4 (c3.tr c4) r4
      · rw [if_neg (fun q => q.elim (fun q => q e1) (fun q => e3 q.2))] at hQ
        refine B_Thinning_thin_54 ?_
        simp only [wp_cons, wp_nil, List.getElem?_cons_zero, List.getElem?_cons_succ, List.set_cons_zero, List.set_cons_succ, s_bipush, s_if_icmp_ne, p2_s, true_and, and_true, Nat.le_refl, true_implies, forall_const, not_false_eq_true, false_implies, not_true_eq_false, reduceCtorEq, tl_s, tl_n, rf_s, List.cons_append, List.nil_append, true_or, or_true, m1.1, n1.1]
        refine b_ne (by omega) (by omega) (fun cc => absurd cc (by omega)) (fun cc => ?_)
        refine B_Thinning_thin_59 ?_
        simp only [wp_cons, wp_nil, List.getElem?_cons_zero, List.getElem?_cons_succ, List.set_cons_zero, List.set_cons_succ, s_aload_n1, ldA_r, ldA_n, ldA_s, s_getfield, pR_s, ob_s, gt_s, s_ifCond_eq, p1_s, true_and, and_true, Nat.le_refl, true_implies, forall_const, not_false_eq_true, false_implies, not_true_eq_false, reduceCtorEq, tl_s, tl_n, rf_s, List.cons_append, List.nil_append, true_or, or_true, m1.1, n1.1]
        refine b_eq (by omega) (by omega) (fun cc => absurd cc (by omega)) (fun cc => ?_)
        refine B_Thinning_thin_66 ?_
        simp only [wp_cons, wp_nil, List.getElem?_cons_zero, List.getElem?_cons_succ, List.set_cons_zero, List.set_cons_succ, s_aload_n3, ldA_r, ldA_n, ldA_s, s_getfield, pR_s, ob_s, gt_s, s_iconst, s_if_icmp_ge, p2_s, true_and, and_true, Nat.le_refl, true_implies, forall_const, not_false_eq_true, false_implies, not_true_eq_false, reduceCtorEq, tl_s, tl_n, rf_s, List.cons_append, List.nil_append, true_or, or_true, m1.1, n1.1]
        refine b_le (by omega) (by omega) (fun cc => ?_) (fun cc => absurd cc (by omega))
        refine B_Thinning_thin_79 ?_
        simp only [wp_cons, wp_nil, List.getElem?_cons_zero, List.getElem?_cons_succ, List.set_cons_zero, List.set_cons_succ, s_return_, rt_Thinning_thin, true_and, and_true, Nat.le_refl, true_implies, forall_const, not_false_eq_true, false_implies, not_true_eq_false, reduceCtorEq, tl_s, tl_n, rf_s, List.cons_append, List.nil_append, true_or, or_true, m1.1, n1.1]
        exact hQ h3 c3 r3
    · have hz1 : sz S.2 = 0 := by unfold sz; rw [if_neg e2]
      rw [if_neg (fun q => q.elim (fun q => q e1) (fun q => e2 q.1))] at hQ
      refine B_Thinning_thin_54 ?_
      simp only [wp_cons, wp_nil, List.getElem?_cons_zero, List.getElem?_cons_succ, List.set_cons_zero, List.set_cons_succ, s_bipush, s_if_icmp_ne, p2_s, true_and, and_true, Nat.le_refl, true_implies, forall_const, not_false_eq_true, false_implies, not_true_eq_false, reduceCtorEq, tl_s, tl_n, rf_s, List.cons_append, List.nil_append, true_or, or_true, m1.1, n1.1]
      refine b_ne (by omega) (by omega) (fun cc => absurd cc (by omega)) (fun cc => ?_)
      refine B_Thinning_thin_59 ?_
      simp only [wp_cons, wp_nil, List.getElem?_cons_zero, List.getElem?_cons_succ, List.set_cons_zero, List.set_cons_succ, s_aload_n1, ldA_r, ldA_n, ldA_s, s_getfield, pR_s, ob_s, gt_s, s_ifCond_eq, p1_s, true_and, and_true, Nat.le_refl, true_implies, forall_const, not_false_eq_true, false_implies, not_true_eq_false, reduceCtorEq, tl_s, tl_n, rf_s, List.cons_append, List.nil_append, true_or, or_true, m1.1, n1.1]
      refine b_eq (by omega) (by omega) (fun cc => ?_) (fun cc => absurd cc (by omega))
      refine B_Thinning_thin_79 ?_
      simp only [wp_cons, wp_nil, List.getElem?_cons_zero, List.getElem?_cons_succ, List.set_cons_zero, List.set_cons_succ, s_return_, rt_Thinning_thin, true_and, and_true, Nat.le_refl, true_implies, forall_const, not_false_eq_true, false_implies, not_true_eq_false, reduceCtorEq, tl_s, tl_n, rf_s, List.cons_append, List.nil_append, true_or, or_true, m1.1, n1.1]
      exact hQ h3 c3 r3
  · rw [if_pos (Or.inl e1)] at hQ
    refine B_Thinning_thin_54 ?_
    simp only [wp_cons, wp_nil, List.getElem?_cons_zero, List.getElem?_cons_succ, List.set_cons_zero, List.set_cons_succ, s_bipush, s_if_icmp_ne, p2_s, true_and, and_true, Nat.le_refl, true_implies, forall_const, not_false_eq_true, false_implies, not_true_eq_false, reduceCtorEq, tl_s, tl_n, rf_s, List.cons_append, List.nil_append, true_or, or_true, m1.1, n1.1]
    refine b_ne (by omega) (by omega) (fun cc => ?_) (fun cc => absurd cc (by omega))
    refine B_Thinning_thin_74 ?_
    simp only [wp_cons, wp_nil, List.getElem?_cons_zero, List.getElem?_cons_succ, List.set_cons_zero, List.set_cons_succ, s_aload_n3, ldA_r, ldA_n, ldA_s, s_aload_n1, s_invokevirtual, rc_s, ob_s, List.drop_succ_cons, List.drop_zero, List.take_succ_cons, List.take_zero, List.reverse_cons, List.reverse_nil, List.nil_append, List.cons_append, List.length_cons, List.length_nil, d1, Int.reduceToNat, Nat.reduceAdd, Nat.reduceLeDiff, true_and, and_true, Nat.le_refl, true_implies, forall_const, not_false_eq_true, false_implies, not_true_eq_false, reduceCtorEq, tl_s, tl_n, rf_s, true_or, or_true, m1.1, n1.1]
    refine Stroke_copyFrom_c (by omega) r3.x s3 (by omega) (fun h4 c4 r4 => ?_)
    refine B_Thinning_thin_79 ?_
    simp only [wp_cons, wp_nil, List.getElem?_cons_zero, List.getElem?_cons_succ, List.set_cons_zero, List.set_cons_succ, s_return_, rt_Thinning_thin, true_and, and_true, Nat.le_refl, true_implies, forall_const, not_false_eq_true, false_implies, not_true_eq_false, reduceCtorEq, tl_s, tl_n, rf_s, List.cons_append, List.nil_append, true_or, or_true, m1.1, n1.1]
    exact hQ h4 (c3.tr c4) r4
