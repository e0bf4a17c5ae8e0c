/-! ===== pure: points, distances, sides ===== -/
abbrev i32 (x : Int) : Prop := -2147483648 ≤ x ∧ x ≤ 2147483647
abbrev i64 (x : Int) : Prop := -9223372036854775808 ≤ x ∧ x ≤ 9223372036854775807
abbrev pt (p : Int) : Prop := 0 ≤ p ∧ p ≤ 999999
def sqd (p q : Int) : Int := (p / 1000 - q / 1000) * (p / 1000 - q / 1000) + (p % 1000 - q % 1000) * (p % 1000 - q % 1000)
def crs (a b p : Int) : Int := (b / 1000 - a / 1000) * (p % 1000 - a % 1000) - (b % 1000 - a % 1000) * (p / 1000 - a / 1000)
def pcr (a b c d : Int) : Bool := decide (crs a b c * crs a b d < 0) && decide (crs c d a * crs c d b < 0)
theorem bd_mul {a b A B : Int} (ha : -A ≤ a ∧ a ≤ A) (hb : -B ≤ b ∧ b ≤ B) : -(A * B) ≤ a * b ∧ a * b ≤ A * B := by
  have h1 : (a * b).natAbs ≤ (A * B).natAbs := by
    rw [Int.natAbs_mul, Int.natAbs_mul]
    exact Nat.mul_le_mul (by omega) (by omega)
  have h2 : 0 ≤ A * B := Int.mul_nonneg (by omega) (by omega)
  omega
theorem bd_sq (a : Int) : 0 ≤ a * a := by
  rcases Int.le_total 0 a with h | h
  · exact Int.mul_nonneg h h
  · exact Int.mul_nonneg_of_nonpos_of_nonpos h h
theorem sqd_bd {p q : Int} (hp : pt p) (hq : pt q) : 0 ≤ sqd p q ∧ sqd p q ≤ 1996002 := by
  have h1 := bd_mul (A := 999) (B := 999) (show -999 ≤ p / 1000 - q / 1000 ∧ p / 1000 - q / 1000 ≤ 999 by omega) (show -999 ≤ p / 1000 - q / 1000 ∧ p / 1000 - q / 1000 ≤ 999 by omega)
  have h2 := bd_mul (A := 999) (B := 999) (show -999 ≤ p % 1000 - q % 1000 ∧ p % 1000 - q % 1000 ≤ 999 by omega) (show -999 ≤ p % 1000 - q % 1000 ∧ p % 1000 - q % 1000 ≤ 999 by omega)
  have h3 := bd_sq (p / 1000 - q / 1000)
  have h4 := bd_sq (p % 1000 - q % 1000)
  unfold sqd
  omega
theorem crs_bd {a b p : Int} (ha : pt a) (hb : pt b) (hp : pt p) : -1996002 ≤ crs a b p ∧ crs a b p ≤ 1996002 := by
  have h1 := bd_mul (A := 999) (B := 999) (show -999 ≤ b / 1000 - a / 1000 ∧ b / 1000 - a / 1000 ≤ 999 by omega) (show -999 ≤ p % 1000 - a % 1000 ∧ p % 1000 - a % 1000 ≤ 999 by omega)
  have h2 := bd_mul (A := 999) (B := 999) (show -999 ≤ b % 1000 - a % 1000 ∧ b % 1000 - a % 1000 ≤ 999 by omega) (show -999 ≤ p / 1000 - a / 1000 ∧ p / 1000 - a / 1000 ≤ 999 by omega)
  unfold crs
  omega
theorem crs2_bd {x y : Int} (hx : -1996002 ≤ x ∧ x ≤ 1996002) (hy : -1996002 ≤ y ∧ y ≤ 1996002) : -3984023984004 ≤ x * y ∧ x * y ≤ 3984023984004 := by
  have := bd_mul (A := 1996002) (B := 1996002) hx hy
  omega
/-! ===== pure: the root, bit by bit ===== -/
def rtl (k : Nat) (r n : Int) : Int := match k with
  | 0 => r
  | k + 1 => rtl k (if (r + 2 ^ k) * (r + 2 ^ k) ≤ n then r + 2 ^ k else r) n
def rt (n : Int) : Int := rtl 15 0 n
theorem sq_mono {a b : Int} (ha : 0 ≤ a) (h : a ≤ b) : a * a ≤ b * b := Int.mul_le_mul h h ha (by omega)
theorem rtl_ok : ∀ (k : Nat) (r n : Int), 0 ≤ r → r * r ≤ n → n < (r + 2 ^ k) * (r + 2 ^ k) → 0 ≤ rtl k r n ∧ rtl k r n * rtl k r n ≤ n ∧ n < (rtl k r n + 1) * (rtl k r n + 1) ∧ rtl k r n < r + 2 ^ k := by
  intro k
  induction k with
  | zero =>
    intro r n h0 h1 h2
    unfold rtl
    exact ⟨h0, h1, by simpa using h2, by simp; omega⟩
  | succ k ih =>
    intro r n h0 h1 h2
    unfold rtl
    have hp : (0 : Int) < 2 ^ k := Int.pow_pos (by omega)
    have e : (2 : Int) ^ (k + 1) = 2 ^ k + 2 ^ k := by rw [Int.pow_succ]; omega
    by_cases hc : (r + 2 ^ k) * (r + 2 ^ k) ≤ n
    · rw [if_pos hc]
      have := ih (r + 2 ^ k) n (by omega) hc (by rw [e] at h2; rw [show r + 2 ^ k + 2 ^ k = r + (2 ^ k + 2 ^ k) by omega]; exact h2)
      exact ⟨this.1, this.2.1, this.2.2.1, by omega⟩
    · rw [if_neg hc]
      have := ih r n h0 h1 (by omega)
      exact ⟨this.1, this.2.1, this.2.2.1, by omega⟩
theorem rt_16 {n : Int} (h : n < 1073741824) : rtl 16 0 n = rt n := by
  rw [show rtl 16 0 n = rtl 15 (if ((0 : Int) + 2 ^ 15) * (0 + 2 ^ 15) ≤ n then 0 + 2 ^ 15 else 0) n from rfl, if_neg (by omega)]
  rfl
theorem rt_ok {n : Int} (h0 : 0 ≤ n) (h : n < 1073741824) : 0 ≤ rt n ∧ rt n * rt n ≤ n ∧ n < (rt n + 1) * (rt n + 1) ∧ rt n < 32768 := by
  have := rtl_ok 15 0 n (by omega) (by omega) (by omega)
  exact ⟨this.1, this.2.1, this.2.2.1, by have := this.2.2.2; unfold rt; omega⟩
/-! ===== comparing longs ===== -/
theorem cmpJ {u v : Int} (hu : i64 u) (hv : i64 v) : lg_cmp (J u) (J v) = I (if v < u then 1 else if u = v then 0 else -1) := by
  unfold lg_cmp
  have h1 : (J u > J v) ↔ v < u := J_lt hv hu
  have h2 : (J u = J v) ↔ u = v := J_eq hu hv
  by_cases c1 : v < u
  · rw [if_pos (h1.mpr c1), if_pos c1]; rfl
  · rw [if_neg (fun q => c1 (h1.mp q)), if_neg c1]
    by_cases c2 : u = v
    · rw [if_pos (h2.mpr c2), if_pos c2]; rfl
    · rw [if_neg (fun q => c2 (h2.mp q)), if_neg c2]; rfl
theorem b_clt {u v : Int} {A B : Prop} (hu : i64 u) (hv : i64 v) (a : u < v → A) (b : v ≤ u → B) : (lg_cmp (J u) (J v) < I 0 → A) ∧ (¬ lg_cmp (J u) (J v) < I 0 → B) := by
  rw [cmpJ hu hv, I_lt (by split <;> (try split) <;> omega) (by omega)]
  refine ⟨fun h => a ?_, fun h => b ?_⟩ <;> (split at h <;> (try split at h) <;> omega)
theorem b_cge {u v : Int} {A B : Prop} (hu : i64 u) (hv : i64 v) (a : v ≤ u → A) (b : u < v → B) : (I 0 ≤ lg_cmp (J u) (J v) → A) ∧ (¬ I 0 ≤ lg_cmp (J u) (J v) → B) := by
  rw [cmpJ hu hv, I_le (by omega) (by split <;> (try split) <;> omega)]
  refine ⟨fun h => a ?_, fun h => b ?_⟩ <;> (split at h <;> (try split at h) <;> omega)
theorem b_cgt {u v : Int} {A B : Prop} (hu : i64 u) (hv : i64 v) (a : v < u → A) (b : u ≤ v → B) : (I 0 < lg_cmp (J u) (J v) → A) ∧ (¬ I 0 < lg_cmp (J u) (J v) → B) := by
  rw [cmpJ hu hv, I_lt (by omega) (by split <;> (try split) <;> omega)]
  refine ⟨fun h => a ?_, fun h => b ?_⟩ <;> (split at h <;> (try split at h) <;> omega)
theorem b_cle {u v : Int} {A B : Prop} (hu : i64 u) (hv : i64 v) (a : u ≤ v → A) (b : v < u → B) : (lg_cmp (J u) (J v) ≤ I 0 → A) ∧ (¬ lg_cmp (J u) (J v) ≤ I 0 → B) := by
  rw [cmpJ hu hv, I_le (by split <;> (try split) <;> omega) (by omega)]
  refine ⟨fun h => a ?_, fun h => b ?_⟩ <;> (split at h <;> (try split at h) <;> omega)
theorem I_shr1 {x : Int} (h0 : 0 ≤ x) (h : x ≤ 2147483647) : I x >>> (I 1 &&& 31) = I (x / 2) := by
  obtain ⟨n, rfl⟩ : ∃ n : Nat, x = n := ⟨x.toNat, by omega⟩
  have e : I (n : Int) = nI n := rfl
  have e2 : I ((n : Int) / 2) = nI (n / 2 ^ 1) := by rw [show ((n : Int) / 2) = ((n / 2 : Nat) : Int) by omega]; rfl
  rw [e, e2]
  exact pk_shrN (by omega) (I 1 &&& 31) 1 (by decide)
theorem J_shr1 {x : Int} (h0 : 0 ≤ x) (h : x ≤ 2147483647) : J x >>> ((I 1).toInt64 &&& 63) = J (x / 2) := by
  have e : ((I 1).toInt64 &&& 63) = 1 := by decide
  rw [e, ← Int64.toInt_inj, J_toInt (by omega)]
  have h3 : (J x >>> (1 : Int64)).toInt = (J x).toInt >>> 1 := by
    show ((J x).toBitVec.sshiftRight ((1 : Int64).toBitVec.smod 64).toNat).toInt = _
    rw [show ((1 : Int64).toBitVec.smod 64).toNat = 1 from by decide, BitVec.toInt_sshiftRight]
    rfl
  rw [h3, J_toInt (by omega), Int.shiftRight_eq_div_pow]
  omega
theorem I_and1 {x : Int} (h0 : 0 ≤ x) (h : x ≤ 2147483647) : I x &&& I 1 = I (x % 2) := by
  obtain ⟨n, rfl⟩ : ∃ n : Nat, x = n := ⟨x.toNat, by omega⟩
  have e : I (n : Int) = nI n := rfl
  have e2 : I ((n : Int) % 2) = nI (n % 2 ^ 1) := by rw [show ((n : Int) % 2) = ((n % 2 : Nat) : Int) by omega]; rfl
  rw [e, e2]
  exact pk_andN (by omega) 1 (by decide)
theorem I_mx {x y : Int} (hx : i32 x) (hy : i32 y) : (if I x < I y then I y else I x) = I (max x y) := by
  by_cases c : x < y
  · rw [if_pos ((I_lt hx hy).mpr c)]; congr 1; omega
  · rw [if_neg (fun q => c ((I_lt hx hy).mp q))]; congr 1; omega
theorem I_mn {x y : Int} (hx : i32 x) (hy : i32 y) : (if I y < I x then I y else I x) = I (min x y) := by
  by_cases c : y < x
  · rw [if_pos ((I_lt hy hx).mpr c)]; congr 1; omega
  · rw [if_neg (fun q => c ((I_lt hy hx).mp q))]; congr 1; omega
theorem I_ab {x : Int} (hx : i32 x) : (if 0 ≤ I x then I x else 0 - I x) = I (x.natAbs : Int) := by
  have h0 : (0 : Int32) = I 0 := rfl
  rw [h0]
  by_cases c : 0 ≤ x
  · rw [if_pos ((I_le (by omega) hx).mpr c)]; congr 1; omega
  · rw [if_neg (fun q => c ((I_le (by omega) hx).mp q)), I_sub]; congr 1; omega
/-! ===== the class's points ===== -/
/-! blocks of Plane_isPlace -/
theorem ml_Plane_isPlace : (g_m Plane_isPlace).2.2.1 = 2 := rfl
theorem rt_Plane_isPlace : (g_m Plane_isPlace).2.2.2.1 = (some .boolean) := rfl
theorem B_Plane_isPlace_0 {d mc ms cs ss : Nat} {L : List (Option Value)} {st : List Value} {h : g_H} {Q : g_Po} (hw : g_wp Plane_isPlace d mc ms Q 4 [(0, 1, 0, 0, 0, 0, .iload_n 0), (1, 3, 26, 0, 0, 0, .ifCond .lt 25)] cs ss L st h) : G Plane_isPlace d mc ms cs ss 0 L st h Q := G.run (by decide +kernel) hw
theorem B_Plane_isPlace_4 {d mc ms cs ss : Nat} {L : List (Option Value)} {st : List Value} {h : g_H} {Q : g_Po} (hw : g_wp Plane_isPlace d mc ms Q 11 [(4, 1, 0, 0, 0, 0, .iload_n 0), (5, 3, 0, 0, 0, 999, .sipush 999), (8, 3, 26, 0, 0, 0, .if_icmp .gt 18)] cs ss L st h) : G Plane_isPlace d mc ms cs ss 4 L st h Q := G.run (by decide +kernel) hw
theorem B_Plane_isPlace_11 {d mc ms cs ss : Nat} {L : List (Option Value)} {st : List Value} {h : g_H} {Q : g_Po} (hw : g_wp Plane_isPlace d mc ms Q 15 [(11, 1, 0, 0, 0, 0, .iload_n 1), (12, 3, 26, 0, 0, 0, .ifCond .lt 14)] cs ss L st h) : G Plane_isPlace d mc ms cs ss 11 L st h Q := G.run (by decide +kernel) hw
theorem B_Plane_isPlace_15 {d mc ms cs ss : Nat} {L : List (Option Value)} {st : List Value} {h : g_H} {Q : g_Po} (hw : g_wp Plane_isPlace d mc ms Q 22 [(15, 1, 0, 0, 0, 0, .iload_n 1), (16, 3, 0, 0, 0, 999, .sipush 999), (19, 3, 26, 0, 0, 0, .if_icmp .gt 7)] cs ss L st h) : G Plane_isPlace d mc ms cs ss 15 L st h Q := G.run (by decide +kernel) hw
theorem B_Plane_isPlace_22 {d mc ms cs ss : Nat} {L : List (Option Value)} {st : List Value} {h : g_H} {Q : g_Po} (hw : g_wp Plane_isPlace d mc ms Q 26 [(22, 1, 0, 0, 0, 1, .iconst 1), (23, 3, 27, 0, 0, 0, .goto 4)] cs ss L st h) : G Plane_isPlace d mc ms cs ss 22 L st h Q := G.run (by decide +kernel) hw
theorem B_Plane_isPlace_26 {d mc ms cs ss : Nat} {L : List (Option Value)} {st : List Value} {h : g_H} {Q : g_Po} (hw : g_wp Plane_isPlace d mc ms Q 27 [(26, 1, 0, 0, 0, 0, .iconst 0)] cs ss L st h) : G Plane_isPlace d mc ms cs ss 26 L st h Q := G.run (by decide +kernel) hw
theorem B_Plane_isPlace_27 {d mc ms cs ss : Nat} {L : List (Option Value)} {st : List Value} {h : g_H} {Q : g_Po} (hw : g_wp Plane_isPlace d mc ms Q 28 [(27, 1, 0, 0, 0, 0, .ireturn)] cs ss L st h) : G Plane_isPlace d mc ms cs ss 27 L st h Q := G.run (by decide +kernel) hw
/-! blocks of Plane_told -/
theorem ml_Plane_told : (g_m Plane_told).2.2.1 = 2 := rfl
theorem rt_Plane_told : (g_m Plane_told).2.2.2.1 = (some .int) := rfl
theorem B_Plane_told_0 {d mc ms cs ss : Nat} {L : List (Option Value)} {st : List Value} {h : g_H} {Q : g_Po} (hw : g_wp Plane_told d mc ms Q 8 [(0, 3, 0, 0, 0, 1000, .sipush 1000), (3, 1, 0, 0, 0, 0, .iload_n 0), (4, 1, 0, 0, 0, 0, .imul), (5, 1, 0, 0, 0, 0, .iload_n 1), (6, 1, 0, 0, 0, 0, .iadd), (7, 1, 0, 0, 0, 0, .ireturn)] cs ss L st h) : G Plane_told d mc ms cs ss 0 L st h Q := G.run (by decide +kernel) hw
/-! blocks of Plane_xOf -/
theorem ml_Plane_xOf : (g_m Plane_xOf).2.2.1 = 1 := rfl
theorem rt_Plane_xOf : (g_m Plane_xOf).2.2.2.1 = (some .int) := rfl
theorem B_Plane_xOf_0 {d mc ms cs ss : Nat} {L : List (Option Value)} {st : List Value} {h : g_H} {Q : g_Po} (hw : g_wp Plane_xOf d mc ms Q 6 [(0, 1, 0, 0, 0, 0, .iload_n 0), (1, 3, 0, 0, 0, 1000, .sipush 1000), (4, 1, 0, 0, 0, 0, .idiv), (5, 1, 0, 0, 0, 0, .ireturn)] cs ss L st h) : G Plane_xOf d mc ms cs ss 0 L st h Q := G.run (by decide +kernel) hw
/-! blocks of Plane_yOf -/
theorem ml_Plane_yOf : (g_m Plane_yOf).2.2.1 = 1 := rfl
theorem rt_Plane_yOf : (g_m Plane_yOf).2.2.2.1 = (some .int) := rfl
theorem B_Plane_yOf_0 {d mc ms cs ss : Nat} {L : List (Option Value)} {st : List Value} {h : g_H} {Q : g_Po} (hw : g_wp Plane_yOf d mc ms Q 6 [(0, 1, 0, 0, 0, 0, .iload_n 0), (1, 3, 0, 0, 0, 1000, .sipush 1000), (4, 1, 0, 0, 0, 0, .irem), (5, 1, 0, 0, 0, 0, .ireturn)] cs ss L st h) : G Plane_yOf d mc ms cs ss 0 L st h Q := G.run (by decide +kernel) hw
/-! blocks of Plane_squaredDistance -/
theorem ml_Plane_squaredDistance : (g_m Plane_squaredDistance).2.2.1 = 4 := rfl
theorem rt_Plane_squaredDistance : (g_m Plane_squaredDistance).2.2.2.1 = (some .int) := rfl
theorem B_Plane_squaredDistance_0 {d mc ms cs ss : Nat} {L : List (Option Value)} {st : List Value} {h : g_H} {Q : g_Po} (hw : g_wp Plane_squaredDistance d mc ms Q 4 [(0, 1, 0, 0, 0, 0, .iload_n 0), (1, 3, 26, 0, 2076, 1, .invokestatic 9)] cs ss L st h) : G Plane_squaredDistance d mc ms cs ss 0 L st h Q := G.run (by decide +kernel) hw
theorem B_Plane_squaredDistance_4 {d mc ms cs ss : Nat} {L : List (Option Value)} {st : List Value} {h : g_H} {Q : g_Po} (hw : g_wp Plane_squaredDistance d mc ms Q 8 [(4, 1, 0, 0, 0, 0, .iload_n 1), (5, 3, 26, 0, 2076, 1, .invokestatic 9)] cs ss L st h) : G Plane_squaredDistance d mc ms cs ss 4 L st h Q := G.run (by decide +kernel) hw
theorem B_Plane_squaredDistance_8 {d mc ms cs ss : Nat} {L : List (Option Value)} {st : List Value} {h : g_H} {Q : g_Po} (hw : g_wp Plane_squaredDistance d mc ms Q 14 [(8, 1, 0, 0, 0, 0, .isub), (9, 1, 0, 0, 0, 0, .istore_n 2), (10, 1, 0, 0, 0, 0, .iload_n 0), (11, 3, 27, 0, 2079, 1, .invokestatic 15)] cs ss L st h) : G Plane_squaredDistance d mc ms cs ss 8 L st h Q := G.run (by decide +kernel) hw
theorem B_Plane_squaredDistance_14 {d mc ms cs ss : Nat} {L : List (Option Value)} {st : List Value} {h : g_H} {Q : g_Po} (hw : g_wp Plane_squaredDistance d mc ms Q 18 [(14, 1, 0, 0, 0, 0, .iload_n 1), (15, 3, 27, 0, 2079, 1, .invokestatic 15)] cs ss L st h) : G Plane_squaredDistance d mc ms cs ss 14 L st h Q := G.run (by decide +kernel) hw
theorem B_Plane_squaredDistance_18 {d mc ms cs ss : Nat} {L : List (Option Value)} {st : List Value} {h : g_H} {Q : g_Po} (hw : g_wp Plane_squaredDistance d mc ms Q 28 [(18, 1, 0, 0, 0, 0, .isub), (19, 1, 0, 0, 0, 0, .istore_n 3), (20, 1, 0, 0, 0, 0, .iload_n 2), (21, 1, 0, 0, 0, 0, .iload_n 2), (22, 1, 0, 0, 0, 0, .imul), (23, 1, 0, 0, 0, 0, .iload_n 3), (24, 1, 0, 0, 0, 0, .iload_n 3), (25, 1, 0, 0, 0, 0, .imul), (26, 1, 0, 0, 0, 0, .iadd), (27, 1, 0, 0, 0, 0, .ireturn)] cs ss L st h) : G Plane_squaredDistance d mc ms cs ss 18 L st h Q := G.run (by decide +kernel) hw
/-! blocks of Plane_cross -/
theorem ml_Plane_cross : (g_m Plane_cross).2.2.1 = 5 := rfl
theorem rt_Plane_cross : (g_m Plane_cross).2.2.2.1 = (some .int) := rfl
theorem B_Plane_cross_0 {d mc ms cs ss : Nat} {L : List (Option Value)} {st : List Value} {h : g_H} {Q : g_Po} (hw : g_wp Plane_cross d mc ms Q 4 [(0, 1, 0, 0, 0, 0, .iload_n 0), (1, 3, 26, 0, 2076, 1, .invokestatic 9)] cs ss L st h) : G Plane_cross d mc ms cs ss 0 L st h Q := G.run (by decide +kernel) hw
theorem B_Plane_cross_4 {d mc ms cs ss : Nat} {L : List (Option Value)} {st : List Value} {h : g_H} {Q : g_Po} (hw : g_wp Plane_cross d mc ms Q 9 [(4, 1, 0, 0, 0, 0, .istore_n 3), (5, 1, 0, 0, 0, 0, .iload_n 0), (6, 3, 27, 0, 2079, 1, .invokestatic 15)] cs ss L st h) : G Plane_cross d mc ms cs ss 4 L st h Q := G.run (by decide +kernel) hw
theorem B_Plane_cross_9 {d mc ms cs ss : Nat} {L : List (Option Value)} {st : List Value} {h : g_H} {Q : g_Po} (hw : g_wp Plane_cross d mc ms Q 15 [(9, 2, 0, 0, 0, 0, .istore 4), (11, 1, 0, 0, 0, 0, .iload_n 1), (12, 3, 26, 0, 2076, 1, .invokestatic 9)] cs ss L st h) : G Plane_cross d mc ms cs ss 9 L st h Q := G.run (by decide +kernel) hw
theorem B_Plane_cross_15 {d mc ms cs ss : Nat} {L : List (Option Value)} {st : List Value} {h : g_H} {Q : g_Po} (hw : g_wp Plane_cross d mc ms Q 21 [(15, 1, 0, 0, 0, 0, .iload_n 3), (16, 1, 0, 0, 0, 0, .isub), (17, 1, 0, 0, 0, 0, .iload_n 2), (18, 3, 27, 0, 2079, 1, .invokestatic 15)] cs ss L st h) : G Plane_cross d mc ms cs ss 15 L st h Q := G.run (by decide +kernel) hw
theorem B_Plane_cross_21 {d mc ms cs ss : Nat} {L : List (Option Value)} {st : List Value} {h : g_H} {Q : g_Po} (hw : g_wp Plane_cross d mc ms Q 29 [(21, 2, 0, 0, 0, 0, .iload 4), (23, 1, 0, 0, 0, 0, .isub), (24, 1, 0, 0, 0, 0, .imul), (25, 1, 0, 0, 0, 0, .iload_n 1), (26, 3, 27, 0, 2079, 1, .invokestatic 15)] cs ss L st h) : G Plane_cross d mc ms cs ss 21 L st h Q := G.run (by decide +kernel) hw
theorem B_Plane_cross_29 {d mc ms cs ss : Nat} {L : List (Option Value)} {st : List Value} {h : g_H} {Q : g_Po} (hw : g_wp Plane_cross d mc ms Q 36 [(29, 2, 0, 0, 0, 0, .iload 4), (31, 1, 0, 0, 0, 0, .isub), (32, 1, 0, 0, 0, 0, .iload_n 2), (33, 3, 26, 0, 2076, 1, .invokestatic 9)] cs ss L st h) : G Plane_cross d mc ms cs ss 29 L st h Q := G.run (by decide +kernel) hw
theorem B_Plane_cross_36 {d mc ms cs ss : Nat} {L : List (Option Value)} {st : List Value} {h : g_H} {Q : g_Po} (hw : g_wp Plane_cross d mc ms Q 41 [(36, 1, 0, 0, 0, 0, .iload_n 3), (37, 1, 0, 0, 0, 0, .isub), (38, 1, 0, 0, 0, 0, .imul), (39, 1, 0, 0, 0, 0, .isub), (40, 1, 0, 0, 0, 0, .ireturn)] cs ss L st h) : G Plane_cross d mc ms cs ss 36 L st h Q := G.run (by decide +kernel) hw
/-! blocks of Plane_piecesCross -/
theorem ml_Plane_piecesCross : (g_m Plane_piecesCross).2.2.1 = 4 := rfl
theorem rt_Plane_piecesCross : (g_m Plane_piecesCross).2.2.2.1 = (some .boolean) := rfl
theorem B_Plane_piecesCross_0 {d mc ms cs ss : Nat} {L : List (Option Value)} {st : List Value} {h : g_H} {Q : g_Po} (hw : g_wp Plane_piecesCross d mc ms Q 6 [(0, 1, 0, 0, 0, 0, .iload_n 0), (1, 1, 0, 0, 0, 0, .iload_n 1), (2, 1, 0, 0, 0, 0, .iload_n 2), (3, 3, 29, 0, 2106, 3, .invokestatic 18)] cs ss L st h) : G Plane_piecesCross d mc ms cs ss 0 L st h Q := G.run (by decide +kernel) hw
theorem B_Plane_piecesCross_6 {d mc ms cs ss : Nat} {L : List (Option Value)} {st : List Value} {h : g_H} {Q : g_Po} (hw : g_wp Plane_piecesCross d mc ms Q 13 [(6, 1, 0, 0, 0, 0, .i2l), (7, 1, 0, 0, 0, 0, .iload_n 0), (8, 1, 0, 0, 0, 0, .iload_n 1), (9, 1, 0, 0, 0, 0, .iload_n 3), (10, 3, 29, 0, 2106, 3, .invokestatic 18)] cs ss L st h) : G Plane_piecesCross d mc ms cs ss 6 L st h Q := G.run (by decide +kernel) hw
theorem B_Plane_piecesCross_13 {d mc ms cs ss : Nat} {L : List (Option Value)} {st : List Value} {h : g_H} {Q : g_Po} (hw : g_wp Plane_piecesCross d mc ms Q 20 [(13, 1, 0, 0, 0, 0, .i2l), (14, 1, 0, 0, 0, 0, .lmul), (15, 1, 0, 0, 0, 0, .lconst 0), (16, 1, 0, 0, 0, 0, .lcmp), (17, 3, 22, 0, 0, 0, .ifCond .lt 5)] cs ss L st h) : G Plane_piecesCross d mc ms cs ss 13 L st h Q := G.run (by decide +kernel) hw
theorem B_Plane_piecesCross_20 {d mc ms cs ss : Nat} {L : List (Option Value)} {st : List Value} {h : g_H} {Q : g_Po} (hw : g_wp Plane_piecesCross d mc ms Q 22 [(20, 1, 0, 0, 0, 0, .iconst 0), (21, 1, 0, 0, 0, 0, .ireturn)] cs ss L st h) : G Plane_piecesCross d mc ms cs ss 20 L st h Q := G.run (by decide +kernel) hw
theorem B_Plane_piecesCross_22 {d mc ms cs ss : Nat} {L : List (Option Value)} {st : List Value} {h : g_H} {Q : g_Po} (hw : g_wp Plane_piecesCross d mc ms Q 28 [(22, 1, 0, 0, 0, 0, .iload_n 2), (23, 1, 0, 0, 0, 0, .iload_n 3), (24, 1, 0, 0, 0, 0, .iload_n 0), (25, 3, 29, 0, 2106, 3, .invokestatic 18)] cs ss L st h) : G Plane_piecesCross d mc ms cs ss 22 L st h Q := G.run (by decide +kernel) hw
theorem B_Plane_piecesCross_28 {d mc ms cs ss : Nat} {L : List (Option Value)} {st : List Value} {h : g_H} {Q : g_Po} (hw : g_wp Plane_piecesCross d mc ms Q 35 [(28, 1, 0, 0, 0, 0, .i2l), (29, 1, 0, 0, 0, 0, .iload_n 2), (30, 1, 0, 0, 0, 0, .iload_n 3), (31, 1, 0, 0, 0, 0, .iload_n 1), (32, 3, 29, 0, 2106, 3, .invokestatic 18)] cs ss L st h) : G Plane_piecesCross d mc ms cs ss 28 L st h Q := G.run (by decide +kernel) hw
theorem B_Plane_piecesCross_35 {d mc ms cs ss : Nat} {L : List (Option Value)} {st : List Value} {h : g_H} {Q : g_Po} (hw : g_wp Plane_piecesCross d mc ms Q 42 [(35, 1, 0, 0, 0, 0, .i2l), (36, 1, 0, 0, 0, 0, .lmul), (37, 1, 0, 0, 0, 0, .lconst 0), (38, 1, 0, 0, 0, 0, .lcmp), (39, 3, 46, 0, 0, 0, .ifCond .ge 7)] cs ss L st h) : G Plane_piecesCross d mc ms cs ss 35 L st h Q := G.run (by decide +kernel) hw
theorem B_Plane_piecesCross_42 {d mc ms cs ss : Nat} {L : List (Option Value)} {st : List Value} {h : g_H} {Q : g_Po} (hw : g_wp Plane_piecesCross d mc ms Q 46 [(42, 1, 0, 0, 0, 1, .iconst 1), (43, 3, 47, 0, 0, 0, .goto 4)] cs ss L st h) : G Plane_piecesCross d mc ms cs ss 42 L st h Q := G.run (by decide +kernel) hw
theorem B_Plane_piecesCross_46 {d mc ms cs ss : Nat} {L : List (Option Value)} {st : List Value} {h : g_H} {Q : g_Po} (hw : g_wp Plane_piecesCross d mc ms Q 47 [(46, 1, 0, 0, 0, 0, .iconst 0)] cs ss L st h) : G Plane_piecesCross d mc ms cs ss 46 L st h Q := G.run (by decide +kernel) hw
theorem B_Plane_piecesCross_47 {d mc ms cs ss : Nat} {L : List (Option Value)} {st : List Value} {h : g_H} {Q : g_Po} (hw : g_wp Plane_piecesCross d mc ms Q 48 [(47, 1, 0, 0, 0, 0, .ireturn)] cs ss L st h) : G Plane_piecesCross d mc ms cs ss 47 L st h Q := G.run (by decide +kernel) hw
/-! blocks of Plane_root -/
theorem ml_Plane_root : (g_m Plane_root).2.2.1 = 6 := rfl
theorem rt_Plane_root : (g_m Plane_root).2.2.2.1 = (some .int) := rfl
theorem B_Plane_root_0 {d mc ms cs ss : Nat} {L : List (Option Value)} {st : List Value} {h : g_H} {Q : g_Po} (hw : g_wp Plane_root d mc ms Q 7 [(0, 1, 0, 0, 0, 0, .lconst 0), (1, 1, 0, 0, 0, 0, .lstore_n 2), (2, 3, 0, 0, 2085, 32768, .ldc2_w 22), (5, 2, 0, 0, 0, 0, .lstore 4)] cs ss L st h) : G Plane_root d mc ms cs ss 0 L st h Q := G.run (by decide +kernel) hw
theorem B_Plane_root_7 {d mc ms cs ss : Nat} {L : List (Option Value)} {st : List Value} {h : g_H} {Q : g_Po} (hw : g_wp Plane_root d mc ms Q 14 [(7, 2, 0, 0, 0, 0, .lload 4), (9, 1, 0, 0, 0, 0, .lconst 0), (10, 1, 0, 0, 0, 0, .lcmp), (11, 3, 42, 0, 0, 0, .ifCond .le 31)] cs ss L st h) : G Plane_root d mc ms cs ss 7 L st h Q := G.run (by decide +kernel) hw
theorem B_Plane_root_14 {d mc ms cs ss : Nat} {L : List (Option Value)} {st : List Value} {h : g_H} {Q : g_Po} (hw : g_wp Plane_root d mc ms Q 28 [(14, 1, 0, 0, 0, 0, .lload_n 2), (15, 2, 0, 0, 0, 0, .lload 4), (17, 1, 0, 0, 0, 0, .ladd), (18, 1, 0, 0, 0, 0, .lload_n 2), (19, 2, 0, 0, 0, 0, .lload 4), (21, 1, 0, 0, 0, 0, .ladd), (22, 1, 0, 0, 0, 0, .lmul), (23, 1, 0, 0, 0, 0, .lload_n 0), (24, 1, 0, 0, 0, 0, .lcmp), (25, 3, 33, 0, 0, 0, .ifCond .gt 8)] cs ss L st h) : G Plane_root d mc ms cs ss 14 L st h Q := G.run (by decide +kernel) hw
theorem B_Plane_root_28 {d mc ms cs ss : Nat} {L : List (Option Value)} {st : List Value} {h : g_H} {Q : g_Po} (hw : g_wp Plane_root d mc ms Q 33 [(28, 1, 0, 0, 0, 0, .lload_n 2), (29, 2, 0, 0, 0, 0, .lload 4), (31, 1, 0, 0, 0, 0, .ladd), (32, 1, 0, 0, 0, 0, .lstore_n 2)] cs ss L st h) : G Plane_root d mc ms cs ss 28 L st h Q := G.run (by decide +kernel) hw
theorem B_Plane_root_33 {d mc ms cs ss : Nat} {L : List (Option Value)} {st : List Value} {h : g_H} {Q : g_Po} (hw : g_wp Plane_root d mc ms Q 42 [(33, 2, 0, 0, 0, 0, .lload 4), (35, 1, 0, 0, 0, 1, .iconst 1), (36, 1, 0, 0, 0, 0, .lshr), (37, 2, 0, 0, 0, 0, .lstore 4), (39, 3, 7, 0, 0, 0, .goto (-32))] cs ss L st h) : G Plane_root d mc ms cs ss 33 L st h Q := G.run (by decide +kernel) hw
theorem B_Plane_root_42 {d mc ms cs ss : Nat} {L : List (Option Value)} {st : List Value} {h : g_H} {Q : g_Po} (hw : g_wp Plane_root d mc ms Q 45 [(42, 1, 0, 0, 0, 0, .lload_n 2), (43, 1, 0, 0, 0, 0, .l2i), (44, 1, 0, 0, 0, 0, .ireturn)] cs ss L st h) : G Plane_root d mc ms cs ss 42 L st h Q := G.run (by decide +kernel) hw
/-! blocks of Integer_compare -/
theorem ml_Integer_compare : (g_m Integer_compare).2.2.1 = 2 := rfl
theorem rt_Integer_compare : (g_m Integer_compare).2.2.2.1 = (some .int) := rfl
theorem B_Integer_compare_0 {d mc ms cs ss : Nat} {L : List (Option Value)} {st : List Value} {h : g_H} {Q : g_Po} (hw : g_wp Integer_compare d mc ms Q 5 [(0, 1, 0, 0, 0, 0, .iload_n 0), (1, 1, 0, 0, 0, 0, .iload_n 1), (2, 3, 9, 0, 0, 0, .if_icmp .ge 7)] cs ss L st h) : G Integer_compare d mc ms cs ss 0 L st h Q := G.run (by decide +kernel) hw
theorem B_Integer_compare_5 {d mc ms cs ss : Nat} {L : List (Option Value)} {st : List Value} {h : g_H} {Q : g_Po} (hw : g_wp Integer_compare d mc ms Q 9 [(5, 1, 0, 0, 0, (-1), .iconst (-1)), (6, 3, 19, 0, 0, 0, .goto 13)] cs ss L st h) : G Integer_compare d mc ms cs ss 5 L st h Q := G.run (by decide +kernel) hw
theorem B_Integer_compare_9 {d mc ms cs ss : Nat} {L : List (Option Value)} {st : List Value} {h : g_H} {Q : g_Po} (hw : g_wp Integer_compare d mc ms Q 14 [(9, 1, 0, 0, 0, 0, .iload_n 0), (10, 1, 0, 0, 0, 0, .iload_n 1), (11, 3, 18, 0, 0, 0, .if_icmp .ne 7)] cs ss L st h) : G Integer_compare d mc ms cs ss 9 L st h Q := G.run (by decide +kernel) hw
theorem B_Integer_compare_14 {d mc ms cs ss : Nat} {L : List (Option Value)} {st : List Value} {h : g_H} {Q : g_Po} (hw : g_wp Integer_compare d mc ms Q 18 [(14, 1, 0, 0, 0, 0, .iconst 0), (15, 3, 19, 0, 0, 0, .goto 4)] cs ss L st h) : G Integer_compare d mc ms cs ss 14 L st h Q := G.run (by decide +kernel) hw
theorem B_Integer_compare_18 {d mc ms cs ss : Nat} {L : List (Option Value)} {st : List Value} {h : g_H} {Q : g_Po} (hw : g_wp Integer_compare d mc ms Q 19 [(18, 1, 0, 0, 0, 1, .iconst 1)] cs ss L st h) : G Integer_compare d mc ms cs ss 18 L st h Q := G.run (by decide +kernel) hw
theorem B_Integer_compare_19 {d mc ms cs ss : Nat} {L : List (Option Value)} {st : List Value} {h : g_H} {Q : g_Po} (hw : g_wp Integer_compare d mc ms Q 20 [(19, 1, 0, 0, 0, 0, .ireturn)] cs ss L st h) : G Integer_compare d mc ms cs ss 19 L st h Q := G.run (by decide +kernel) hw
theorem Plane_told_c {d : Nat} {x y : Int} {h : g_H} {Q : g_Po} (hQ : Q (some (.int (I (1000 * x + y)))) h) : Call Plane_told d 0 0 [.int (I x), .int (I y)] h Q := by
  refine Call.intro (by rfl) (Nat.le_of_ble_eq_true rfl) ?_
  refine G.eqL (L := [some (.int _), some (.int _)]) rfl ?_
  refine B_Plane_told_0 ?_
  simp only [wp_cons, wp_nil, List.getElem?_cons_zero, List.getElem?_cons_succ, List.set_cons_zero, List.set_cons_succ, s_sipush, s_iload_n0, ldI_s, s_imul, p2_s, I_mul, s_iload_n1, s_iadd, I_add, s_ireturn, p1_s, rI_i, rI_z, rI_c, z_01, z_11, rt_Plane_told, true_and, and_true, Nat.le_refl, true_implies, forall_const, not_false_eq_true, false_implies, not_true_eq_false, reduceCtorEq, tl_s, tl_n, rf_s, List.cons_append, List.nil_append, true_or, or_true]
  exact hQ
theorem Plane_isPlace_c {d : Nat} {x y : Int} {h : g_H} {Q : g_Po} (hx : i32 x) (hy : i32 y) (hQ : Q (some (.int (I (if 0 ≤ x ∧ x ≤ 999 ∧ 0 ≤ y ∧ y ≤ 999 then 1 else 0)))) h) : Call Plane_isPlace d 0 0 [.int (I x), .int (I y)] h Q := by
  refine Call.intro (by rfl) (Nat.le_of_ble_eq_true rfl) ?_
  refine G.eqL (L := [some (.int _), some (.int _)]) rfl ?_
  refine B_Plane_isPlace_0 ?_
  simp only [wp_cons, wp_nil, List.getElem?_cons_zero, List.getElem?_cons_succ, List.set_cons_zero, List.set_cons_succ, s_iload_n0, ldI_s, s_ifCond_lt, p1_s, true_and, and_true, Nat.le_refl, true_implies, forall_const, not_false_eq_true, false_implies, not_true_eq_false, reduceCtorEq, tl_s, tl_n, rf_s, List.cons_append, List.nil_append, true_or, or_true]
  refine b_lt hx (by omega) (fun c => ?_) (fun c => ?_)
  · refine B_Plane_isPlace_26 ?_
    simp only [wp_cons, wp_nil, List.getElem?_cons_zero, List.getElem?_cons_succ, List.set_cons_zero, List.set_cons_succ, s_iconst, true_and, and_true, Nat.le_refl, true_implies, forall_const, not_false_eq_true, false_implies, not_true_eq_false, reduceCtorEq, tl_s, tl_n, rf_s, List.cons_append, List.nil_append, true_or, or_true]
    refine B_Plane_isPlace_27 ?_
    simp only [wp_cons, wp_nil, List.getElem?_cons_zero, List.getElem?_cons_succ, List.set_cons_zero, List.set_cons_succ, s_ireturn, p1_s, rI_i, rI_z, rI_c, z_01, z_11, rt_Plane_isPlace, true_and, and_true, Nat.le_refl, true_implies, forall_const, not_false_eq_true, false_implies, not_true_eq_false, reduceCtorEq, tl_s, tl_n, rf_s, List.cons_append, List.nil_append, true_or, or_true]
    rw [if_neg (by omega)] at hQ; exact hQ
  refine B_Plane_isPlace_4 ?_
  simp only [wp_cons, wp_nil, List.getElem?_cons_zero, List.getElem?_cons_succ, List.set_cons_zero, List.set_cons_succ, s_iload_n0, ldI_s, s_sipush, s_if_icmp_gt, p2_s, true_and, and_true, Nat.le_refl, true_implies, forall_const, not_false_eq_true, false_implies, not_true_eq_false, reduceCtorEq, tl_s, tl_n, rf_s, List.cons_append, List.nil_append, true_or, or_true]
  refine b_lt (by omega) hx (fun c => ?_) (fun c => ?_)
  · refine B_Plane_isPlace_26 ?_
    simp only [wp_cons, wp_nil, List.getElem?_cons_zero, List.getElem?_cons_succ, List.set_cons_zero, List.set_cons_succ, s_iconst, true_and, and_true, Nat.le_refl, true_implies, forall_const, not_false_eq_true, false_implies, not_true_eq_false, reduceCtorEq, tl_s, tl_n, rf_s, List.cons_append, List.nil_append, true_or, or_true]
    refine B_Plane_isPlace_27 ?_
    simp only [wp_cons, wp_nil, List.getElem?_cons_zero, List.getElem?_cons_succ, List.set_cons_zero, List.set_cons_succ, s_ireturn, p1_s, rI_i, rI_z, rI_c, z_01, z_11, rt_Plane_isPlace, true_and, and_true, Nat.le_refl, true_implies, forall_const, not_false_eq_true, false_implies, not_true_eq_false, reduceCtorEq, tl_s, tl_n, rf_s, List.cons_append, List.nil_append, true_or, or_true]
    rw [if_neg (by omega)] at hQ; exact hQ
  refine B_Plane_isPlace_11 ?_
  simp only [wp_cons, wp_nil, List.getElem?_cons_zero, List.getElem?_cons_succ, List.set_cons_zero, List.set_cons_succ, s_iload_n1, ldI_s, s_ifCond_lt, p1_s, true_and, and_true, Nat.le_refl, true_implies, forall_const, not_false_eq_true, false_implies, not_true_eq_false, reduceCtorEq, tl_s, tl_n, rf_s, List.cons_append, List.nil_append, true_or, or_true]
  refine b_lt hy (by omega) (fun c => ?_) (fun c => ?_)
  · refine B_Plane_isPlace_26 ?_
    simp only [wp_cons, wp_nil, List.getElem?_cons_zero, List.getElem?_cons_succ, List.set_cons_zero, List.set_cons_succ, s_iconst, true_and, and_true, Nat.le_refl, true_implies, forall_const, not_false_eq_true, false_implies, not_true_eq_false, reduceCtorEq, tl_s, tl_n, rf_s, List.cons_append, List.nil_append, true_or, or_true]
    refine B_Plane_isPlace_27 ?_
    simp only [wp_cons, wp_nil, List.getElem?_cons_zero, List.getElem?_cons_succ, List.set_cons_zero, List.set_cons_succ, s_ireturn, p1_s, rI_i, rI_z, rI_c, z_01, z_11, rt_Plane_isPlace, true_and, and_true, Nat.le_refl, true_implies, forall_const, not_false_eq_true, false_implies, not_true_eq_false, reduceCtorEq, tl_s, tl_n, rf_s, List.cons_append, List.nil_append, true_or, or_true]
    rw [if_neg (by omega)] at hQ; exact hQ
  refine B_Plane_isPlace_15 ?_
  simp only [wp_cons, wp_nil, List.getElem?_cons_zero, List.getElem?_cons_succ, List.set_cons_zero, List.set_cons_succ, s_iload_n1, ldI_s, s_sipush, s_if_icmp_gt, p2_s, true_and, and_true, Nat.le_refl, true_implies, forall_const, not_false_eq_true, false_implies, not_true_eq_false, reduceCtorEq, tl_s, tl_n, rf_s, List.cons_append, List.nil_append, true_or, or_true]
  refine b_lt (by omega) hy (fun c => ?_) (fun c => ?_)
  · refine B_Plane_isPlace_26 ?_
    simp only [wp_cons, wp_nil, List.getElem?_cons_zero, List.getElem?_cons_succ, List.set_cons_zero, List.set_cons_succ, s_iconst, true_and, and_true, Nat.le_refl, true_implies, forall_const, not_false_eq_true, false_implies, not_true_eq_false, reduceCtorEq, tl_s, tl_n, rf_s, List.cons_append, List.nil_append, true_or, or_true]
    refine B_Plane_isPlace_27 ?_
    simp only [wp_cons, wp_nil, List.getElem?_cons_zero, List.getElem?_cons_succ, List.set_cons_zero, List.set_cons_succ, s_ireturn, p1_s, rI_i, rI_z, rI_c, z_01, z_11, rt_Plane_isPlace, true_and, and_true, Nat.le_refl, true_implies, forall_const, not_false_eq_true, false_implies, not_true_eq_false, reduceCtorEq, tl_s, tl_n, rf_s, List.cons_append, List.nil_append, true_or, or_true]
    rw [if_neg (by omega)] at hQ; exact hQ
  refine B_Plane_isPlace_22 ?_
  simp only [wp_cons, wp_nil, List.getElem?_cons_zero, List.getElem?_cons_succ, List.set_cons_zero, List.set_cons_succ, s_iconst, s_goto, true_and, and_true, Nat.le_refl, true_implies, forall_const, not_false_eq_true, false_implies, not_true_eq_false, reduceCtorEq, tl_s, tl_n, rf_s, List.cons_append, List.nil_append, true_or, or_true]
  refine B_Plane_isPlace_27 ?_
  simp only [wp_cons, wp_nil, List.getElem?_cons_zero, List.getElem?_cons_succ, List.set_cons_zero, List.set_cons_succ, s_ireturn, p1_s, rI_i, rI_z, rI_c, z_01, z_11, rt_Plane_isPlace, true_and, and_true, Nat.le_refl, true_implies, forall_const, not_false_eq_true, false_implies, not_true_eq_false, reduceCtorEq, tl_s, tl_n, rf_s, List.cons_append, List.nil_append, true_or, or_true]
  rw [if_pos (by omega)] at hQ; exact hQ
theorem I_div1000 {p : Int} (hp : pt p) : I p / I 1000 = I (p / 1000) := by
  rw [I_div (by omega) (by omega), Int.tdiv_eq_ediv_of_nonneg (by omega)]
theorem I_rem1000 {p : Int} (hp : pt p) : I p - I p / I 1000 * I 1000 = I (p % 1000) := by
  rw [I_div1000 hp, I_mul, I_sub]; congr 1; omega
theorem Plane_xOf_c {d : Nat} {p : Int} {h : g_H} {Q : g_Po} (hp : pt p) (hQ : Q (some (.int (I (p / 1000)))) h) : Call Plane_xOf d 0 0 [.int (I p)] h Q := by
  refine Call.intro (by rfl) (Nat.le_of_ble_eq_true rfl) ?_
  refine G.eqL (L := [some (.int _)]) rfl ?_
  refine B_Plane_xOf_0 ?_
  simp only [wp_cons, wp_nil, List.getElem?_cons_zero, List.getElem?_cons_succ, List.set_cons_zero, List.set_cons_succ, s_iload_n0, ldI_s, s_sipush, s_idiv, p2_s, ne_k1000, ne_k2, s_ireturn, p1_s, rI_i, rI_z, rI_c, z_01, z_11, rt_Plane_xOf, true_and, and_true, Nat.le_refl, true_implies, forall_const, not_false_eq_true, false_implies, not_true_eq_false, reduceCtorEq, tl_s, tl_n, rf_s, List.cons_append, List.nil_append, true_or, or_true, I_div1000 hp]
  exact hQ
theorem Plane_yOf_c {d : Nat} {p : Int} {h : g_H} {Q : g_Po} (hp : pt p) (hQ : Q (some (.int (I (p % 1000)))) h) : Call Plane_yOf d 0 0 [.int (I p)] h Q := by
  refine Call.intro (by rfl) (Nat.le_of_ble_eq_true rfl) ?_
  refine G.eqL (L := [some (.int _)]) rfl ?_
  refine B_Plane_yOf_0 ?_
  simp only [wp_cons, wp_nil, List.getElem?_cons_zero, List.getElem?_cons_succ, List.set_cons_zero, List.set_cons_succ, s_iload_n0, ldI_s, s_sipush, s_irem, p2_s, ne_k1000, ne_k2, s_ireturn, p1_s, rI_i, rI_z, rI_c, z_01, z_11, rt_Plane_yOf, true_and, and_true, Nat.le_refl, true_implies, forall_const, not_false_eq_true, false_implies, not_true_eq_false, reduceCtorEq, tl_s, tl_n, rf_s, List.cons_append, List.nil_append, true_or, or_true, I_rem1000 hp]
  exact hQ
theorem Plane_sqd_c {d : Nat} (d1 : 1 ≤ d) {p q : Int} {h : g_H} {Q : g_Po} (hp : pt p) (hq : pt q) (hQ : Q (some (.int (I (sqd p q)))) h) : Call Plane_squaredDistance d 0 0 [.int (I p), .int (I q)] h Q := by
  refine Call.intro (by rfl) (Nat.le_of_ble_eq_true rfl) ?_
  refine G.eqL (L := [some (.int _), some (.int _), none, none]) rfl ?_
  refine B_Plane_squaredDistance_0 ?_
  simp only [wp_cons, wp_nil, List.getElem?_cons_zero, List.getElem?_cons_succ, List.set_cons_zero, List.set_cons_succ, s_iload_n0, ldI_s, s_invokestatic, rc_s, ob_s, List.drop_succ_cons, List.drop_zero, List.take_succ_cons, List.take_zero, List.reverse_cons, List.reverse_nil, List.nil_append, List.cons_append, List.length_cons, List.length_nil, Nat.reduceEqDiff, eq_self, reduceIte, p1_s, p2_s, l1_s, d1, Int.reduceToNat, Nat.reduceAdd, Nat.reduceLeDiff, true_and, and_true, Nat.le_refl, true_implies, forall_const, not_false_eq_true, false_implies, not_true_eq_false, reduceCtorEq, tl_s, tl_n, rf_s, true_or, or_true]
  refine Plane_xOf_c hp ?_
  refine B_Plane_squaredDistance_4 ?_
  simp only [wp_cons, wp_nil, List.getElem?_cons_zero, List.getElem?_cons_succ, List.set_cons_zero, List.set_cons_succ, s_iload_n1, ldI_s, s_invokestatic, rc_s, ob_s, List.drop_succ_cons, List.drop_zero, List.take_succ_cons, List.take_zero, List.reverse_cons, List.reverse_nil, List.nil_append, List.cons_append, List.length_cons, List.length_nil, Nat.reduceEqDiff, eq_self, reduceIte, p1_s, p2_s, l1_s, d1, Int.reduceToNat, Nat.reduceAdd, Nat.reduceLeDiff, true_and, and_true, Nat.le_refl, true_implies, forall_const, not_false_eq_true, false_implies, not_true_eq_false, reduceCtorEq, tl_s, tl_n, rf_s, true_or, or_true]
  refine Plane_xOf_c hq ?_
  refine B_Plane_squaredDistance_8 ?_
  simp only [wp_cons, wp_nil, List.getElem?_cons_zero, List.getElem?_cons_succ, List.set_cons_zero, List.set_cons_succ, s_isub, p2_s, I_sub, s_istore_n2, p1_s, s1_0, s1_s, kx_i, kx_r, kx_s, kx_n, kx_l, kx_0, s_iload_n0, ldI_s, s_invokestatic, rc_s, ob_s, List.drop_succ_cons, List.drop_zero, List.take_succ_cons, List.take_zero, List.reverse_cons, List.reverse_nil, List.nil_append, List.cons_append, List.length_cons, List.length_nil, Nat.reduceEqDiff, eq_self, reduceIte, l1_s, d1, Int.reduceToNat, Nat.reduceAdd, Nat.reduceLeDiff, true_and, and_true, Nat.le_refl, true_implies, forall_const, not_false_eq_true, false_implies, not_true_eq_false, reduceCtorEq, tl_s, tl_n, rf_s, true_or, or_true]
  refine Plane_yOf_c hp ?_
  refine B_Plane_squaredDistance_14 ?_
  simp only [wp_cons, wp_nil, List.getElem?_cons_zero, List.getElem?_cons_succ, List.set_cons_zero, List.set_cons_succ, s_iload_n1, ldI_s, s_invokestatic, rc_s, ob_s, List.drop_succ_cons, List.drop_zero, List.take_succ_cons, List.take_zero, List.reverse_cons, List.reverse_nil, List.nil_append, List.cons_append, List.length_cons, List.length_nil, Nat.reduceEqDiff, eq_self, reduceIte, p1_s, p2_s, l1_s, d1, Int.reduceToNat, Nat.reduceAdd, Nat.reduceLeDiff, true_and, and_true, Nat.le_refl, true_implies, forall_const, not_false_eq_true, false_implies, not_true_eq_false, reduceCtorEq, tl_s, tl_n, rf_s, true_or, or_true]
  refine Plane_yOf_c hq ?_
  refine B_Plane_squaredDistance_18 ?_
  simp only [wp_cons, wp_nil, List.getElem?_cons_zero, List.getElem?_cons_succ, List.set_cons_zero, List.set_cons_succ, s_isub, p2_s, I_sub, s_istore_n3, p1_s, s1_0, s1_s, kx_i, kx_r, kx_s, kx_n, kx_l, kx_0, s_iload_n2, ldI_s, s_imul, I_mul, s_iload_n3, s_iadd, I_add, s_ireturn, rI_i, rI_z, rI_c, z_01, z_11, rt_Plane_squaredDistance, true_and, and_true, Nat.le_refl, true_implies, forall_const, not_false_eq_true, false_implies, not_true_eq_false, reduceCtorEq, tl_s, tl_n, rf_s, List.cons_append, List.nil_append, true_or, or_true]
  exact hQ
theorem Plane_cross_c {d : Nat} (d1 : 1 ≤ d) {a b p : Int} {h : g_H} {Q : g_Po} (ha : pt a) (hb : pt b) (hp : pt p) (hQ : Q (some (.int (I (crs a b p)))) h) : Call Plane_cross d 0 0 [.int (I a), .int (I b), .int (I p)] h Q := by
  refine Call.intro (by rfl) (Nat.le_of_ble_eq_true rfl) ?_
  refine G.eqL (L := [some (.int _), some (.int _), some (.int _), none, none]) rfl ?_
  refine B_Plane_cross_0 ?_
  simp only [wp_cons, wp_nil, List.getElem?_cons_zero, List.getElem?_cons_succ, List.set_cons_zero, List.set_cons_succ, s_iload_n0, ldI_s, s_invokestatic, rc_s, ob_s, List.drop_succ_cons, List.drop_zero, List.take_succ_cons, List.take_zero, List.reverse_cons, List.reverse_nil, List.nil_append, List.cons_append, List.length_cons, List.length_nil, Nat.reduceEqDiff, eq_self, reduceIte, p1_s, p2_s, l1_s, d1, Int.reduceToNat, Nat.reduceAdd, Nat.reduceLeDiff, true_and, and_true, Nat.le_refl, true_implies, forall_const, not_false_eq_true, false_implies, not_true_eq_false, reduceCtorEq, tl_s, tl_n, rf_s, true_or, or_true]
  refine Plane_xOf_c ha ?_
  refine B_Plane_cross_4 ?_
  simp only [wp_cons, wp_nil, List.getElem?_cons_zero, List.getElem?_cons_succ, List.set_cons_zero, List.set_cons_succ, s_istore_n3, p1_s, s1_0, s1_s, kx_i, kx_r, kx_s, kx_n, kx_l, kx_0, s_iload_n0, ldI_s, s_invokestatic, rc_s, ob_s, List.drop_succ_cons, List.drop_zero, List.take_succ_cons, List.take_zero, List.reverse_cons, List.reverse_nil, List.nil_append, List.cons_append, List.length_cons, List.length_nil, Nat.reduceEqDiff, eq_self, reduceIte, p2_s, l1_s, d1, Int.reduceToNat, Nat.reduceAdd, Nat.reduceLeDiff, true_and, and_true, Nat.le_refl, true_implies, forall_const, not_false_eq_true, false_implies, not_true_eq_false, reduceCtorEq, tl_s, tl_n, rf_s, true_or, or_true]
  refine Plane_yOf_c ha ?_
  refine B_Plane_cross_9 ?_
  simp only [wp_cons, wp_nil, List.getElem?_cons_zero, List.getElem?_cons_succ, List.set_cons_zero, List.set_cons_succ, s_istore, p1_s, s1_0, s1_s, kx_i, kx_r, kx_s, kx_n, kx_l, kx_0, s_iload_n1, ldI_s, s_invokestatic, rc_s, ob_s, List.drop_succ_cons, List.drop_zero, List.take_succ_cons, List.take_zero, List.reverse_cons, List.reverse_nil, List.nil_append, List.cons_append, List.length_cons, List.length_nil, Nat.reduceEqDiff, eq_self, reduceIte, p2_s, l1_s, d1, Int.reduceToNat, Nat.reduceAdd, Nat.reduceLeDiff, true_and, and_true, Nat.le_refl, true_implies, forall_const, not_false_eq_true, false_implies, not_true_eq_false, reduceCtorEq, tl_s, tl_n, rf_s, true_or, or_true]
  refine Plane_xOf_c hb ?_
  refine B_Plane_cross_15 ?_
  simp only [wp_cons, wp_nil, List.getElem?_cons_zero, List.getElem?_cons_succ, List.set_cons_zero, List.set_cons_succ, s_iload_n3, ldI_s, s_isub, p2_s, I_sub, s_iload_n2, s_invokestatic, rc_s, ob_s, List.drop_succ_cons, List.drop_zero, List.take_succ_cons, List.take_zero, List.reverse_cons, List.reverse_nil, List.nil_append, List.cons_append, List.length_cons, List.length_nil, Nat.reduceEqDiff, eq_self, reduceIte, p1_s, l1_s, d1, Int.reduceToNat, Nat.reduceAdd, Nat.reduceLeDiff, true_and, and_true, Nat.le_refl, true_implies, forall_const, not_false_eq_true, false_implies, not_true_eq_false, reduceCtorEq, tl_s, tl_n, rf_s, true_or, or_true]
  refine Plane_yOf_c hp ?_
  refine B_Plane_cross_21 ?_
  simp only [wp_cons, wp_nil, List.getElem?_cons_zero, List.getElem?_cons_succ, List.set_cons_zero, List.set_cons_succ, s_iload, ldI_s, s_isub, p2_s, I_sub, s_imul, I_mul, s_iload_n1, s_invokestatic, rc_s, ob_s, List.drop_succ_cons, List.drop_zero, List.take_succ_cons, List.take_zero, List.reverse_cons, List.reverse_nil, List.nil_append, List.cons_append, List.length_cons, List.length_nil, Nat.reduceEqDiff, eq_self, reduceIte, p1_s, l1_s, d1, Int.reduceToNat, Nat.reduceAdd, Nat.reduceLeDiff, true_and, and_true, Nat.le_refl, true_implies, forall_const, not_false_eq_true, false_implies, not_true_eq_false, reduceCtorEq, tl_s, tl_n, rf_s, true_or, or_true]
  refine Plane_yOf_c hb ?_
  refine B_Plane_cross_29 ?_
  simp only [wp_cons, wp_nil, List.getElem?_cons_zero, List.getElem?_cons_succ, List.set_cons_zero, List.set_cons_succ, s_iload, ldI_s, s_isub, p2_s, I_sub, s_iload_n2, s_invokestatic, rc_s, ob_s, List.drop_succ_cons, List.drop_zero, List.take_succ_cons, List.take_zero, List.reverse_cons, List.reverse_nil, List.nil_append, List.cons_append, List.length_cons, List.length_nil, Nat.reduceEqDiff, eq_self, reduceIte, p1_s, l1_s, d1, Int.reduceToNat, Nat.reduceAdd, Nat.reduceLeDiff, true_and, and_true, Nat.le_refl, true_implies, forall_const, not_false_eq_true, false_implies, not_true_eq_false, reduceCtorEq, tl_s, tl_n, rf_s, true_or, or_true]
  refine Plane_xOf_c hp ?_
  refine B_Plane_cross_36 ?_
  simp only [wp_cons, wp_nil, List.getElem?_cons_zero, List.getElem?_cons_succ, List.set_cons_zero, List.set_cons_succ, s_iload_n3, ldI_s, s_isub, p2_s, I_sub, s_imul, I_mul, s_ireturn, p1_s, rI_i, rI_z, rI_c, z_01, z_11, rt_Plane_cross, true_and, and_true, Nat.le_refl, true_implies, forall_const, not_false_eq_true, false_implies, not_true_eq_false, reduceCtorEq, tl_s, tl_n, rf_s, List.cons_append, List.nil_append, true_or, or_true]
  exact hQ
theorem Plane_pcr_c {d : Nat} (d2 : 2 ≤ d) {a b c e : Int} {h : g_H} {Q : g_Po} (ha : pt a) (hb : pt b) (hc : pt c) (he : pt e) (hQ : Q (some (.int (I (if pcr a b c e = true then 1 else 0)))) h) : Call Plane_piecesCross d 0 0 [.int (I a), .int (I b), .int (I c), .int (I e)] h Q := by
  have d1 : 1 ≤ d := by omega
  have h1 := crs_bd ha hb hc
  have h2 := crs_bd ha hb he
  have h3 := crs_bd hc he ha
  have h4 := crs_bd hc he hb
  have h5 := crs2_bd h1 h2
  have h6 := crs2_bd h3 h4
  refine Call.intro (by rfl) (Nat.le_of_ble_eq_true rfl) ?_
  refine G.eqL (L := [some (.int _), some (.int _), some (.int _), some (.int _)]) rfl ?_
  refine B_Plane_piecesCross_0 ?_
  simp only [wp_cons, wp_nil, List.getElem?_cons_zero, List.getElem?_cons_succ, List.set_cons_zero, List.set_cons_succ, s_iload_n0, ldI_s, s_iload_n1, s_iload_n2, s_invokestatic, rc_s, ob_s, List.drop_succ_cons, List.drop_zero, List.take_succ_cons, List.take_zero, List.reverse_cons, List.reverse_nil, List.nil_append, List.cons_append, List.length_cons, List.length_nil, Nat.reduceEqDiff, eq_self, reduceIte, p1_s, p2_s, l1_s, d1, Int.reduceToNat, Nat.reduceAdd, Nat.reduceLeDiff, true_and, and_true, Nat.le_refl, true_implies, forall_const, not_false_eq_true, false_implies, not_true_eq_false, reduceCtorEq, tl_s, tl_n, rf_s, true_or, or_true]
  refine Plane_cross_c (by omega) ha hb hc ?_
  refine B_Plane_piecesCross_6 ?_
  simp only [wp_cons, wp_nil, List.getElem?_cons_zero, List.getElem?_cons_succ, List.set_cons_zero, List.set_cons_succ, s_i2l, p1_s, s_iload_n0, ldI_s, s_iload_n1, s_iload_n3, s_invokestatic, rc_s, ob_s, List.drop_succ_cons, List.drop_zero, List.take_succ_cons, List.take_zero, List.reverse_cons, List.reverse_nil, List.nil_append, List.cons_append, List.length_cons, List.length_nil, Nat.reduceEqDiff, eq_self, reduceIte, p2_s, l1_s, d1, Int.reduceToNat, Nat.reduceAdd, Nat.reduceLeDiff, true_and, and_true, Nat.le_refl, true_implies, forall_const, not_false_eq_true, false_implies, not_true_eq_false, reduceCtorEq, tl_s, tl_n, rf_s, true_or, or_true]
  refine Plane_cross_c (by omega) ha hb he ?_
  refine B_Plane_piecesCross_13 ?_
  simp only [wp_cons, wp_nil, List.getElem?_cons_zero, List.getElem?_cons_succ, List.set_cons_zero, List.set_cons_succ, s_i2l, p1_s, s_lmul, l2_s, J_mul, s_lconst0, s_lconst1, s_lcmp, s_ifCond_lt, true_and, and_true, Nat.le_refl, true_implies, forall_const, not_false_eq_true, false_implies, not_true_eq_false, reduceCtorEq, tl_s, tl_n, rf_s, List.cons_append, List.nil_append, true_or, or_true, I_J (show i32 (crs a b c) by omega), I_J (show i32 (crs a b e) by omega)]
  refine b_clt (by omega) (by omega) (fun q1 => ?_) (fun q1 => ?_)
  · refine B_Plane_piecesCross_22 ?_
    simp only [wp_cons, wp_nil, List.getElem?_cons_zero, List.getElem?_cons_succ, List.set_cons_zero, List.set_cons_succ, s_iload_n2, ldI_s, s_iload_n3, s_iload_n0, s_invokestatic, rc_s, ob_s, List.drop_succ_cons, List.drop_zero, List.take_succ_cons, List.take_zero, List.reverse_cons, List.reverse_nil, List.nil_append, List.cons_append, List.length_cons, List.length_nil, Nat.reduceEqDiff, eq_self, reduceIte, p1_s, p2_s, l1_s, d1, Int.reduceToNat, Nat.reduceAdd, Nat.reduceLeDiff, true_and, and_true, Nat.le_refl, true_implies, forall_const, not_false_eq_true, false_implies, not_true_eq_false, reduceCtorEq, tl_s, tl_n, rf_s, true_or, or_true]
    refine Plane_cross_c (by omega) hc he ha ?_
    refine B_Plane_piecesCross_28 ?_
    simp only [wp_cons, wp_nil, List.getElem?_cons_zero, List.getElem?_cons_succ, List.set_cons_zero, List.set_cons_succ, s_i2l, p1_s, s_iload_n2, ldI_s, s_iload_n3, s_iload_n1, s_invokestatic, rc_s, ob_s, List.drop_succ_cons, List.drop_zero, List.take_succ_cons, List.take_zero, List.reverse_cons, List.reverse_nil, List.nil_append, List.cons_append, List.length_cons, List.length_nil, Nat.reduceEqDiff, eq_self, reduceIte, p2_s, l1_s, d1, Int.reduceToNat, Nat.reduceAdd, Nat.reduceLeDiff, true_and, and_true, Nat.le_refl, true_implies, forall_const, not_false_eq_true, false_implies, not_true_eq_false, reduceCtorEq, tl_s, tl_n, rf_s, true_or, or_true]
    refine Plane_cross_c (by omega) hc he hb ?_
    refine B_Plane_piecesCross_35 ?_
    simp only [wp_cons, wp_nil, List.getElem?_cons_zero, List.getElem?_cons_succ, List.set_cons_zero, List.set_cons_succ, s_i2l, p1_s, s_lmul, l2_s, J_mul, s_lconst0, s_lconst1, s_lcmp, s_ifCond_ge, true_and, and_true, Nat.le_refl, true_implies, forall_const, not_false_eq_true, false_implies, not_true_eq_false, reduceCtorEq, tl_s, tl_n, rf_s, List.cons_append, List.nil_append, true_or, or_true, I_J (show i32 (crs c e a) by omega), I_J (show i32 (crs c e b) by omega)]
    refine b_cge (by omega) (by omega) (fun q2 => ?_) (fun q2 => ?_)
    · refine B_Plane_piecesCross_46 ?_
      simp only [wp_cons, wp_nil, List.getElem?_cons_zero, List.getElem?_cons_succ, List.set_cons_zero, List.set_cons_succ, s_iconst, true_and, and_true, Nat.le_refl, true_implies, forall_const, not_false_eq_true, false_implies, not_true_eq_false, reduceCtorEq, tl_s, tl_n, rf_s, List.cons_append, List.nil_append, true_or, or_true]
      refine B_Plane_piecesCross_47 ?_
      simp only [wp_cons, wp_nil, List.getElem?_cons_zero, List.getElem?_cons_succ, List.set_cons_zero, List.set_cons_succ, s_ireturn, p1_s, rI_i, rI_z, rI_c, z_01, z_11, rt_Plane_piecesCross, true_and, and_true, Nat.le_refl, true_implies, forall_const, not_false_eq_true, false_implies, not_true_eq_false, reduceCtorEq, tl_s, tl_n, rf_s, List.cons_append, List.nil_append, true_or, or_true]
      rw [if_neg (by simp [pcr]; omega)] at hQ; exact hQ
    · refine B_Plane_piecesCross_42 ?_
      simp only [wp_cons, wp_nil, List.getElem?_cons_zero, List.getElem?_cons_succ, List.set_cons_zero, List.set_cons_succ, s_iconst, s_goto, true_and, and_true, Nat.le_refl, true_implies, forall_const, not_false_eq_true, false_implies, not_true_eq_false, reduceCtorEq, tl_s, tl_n, rf_s, List.cons_append, List.nil_append, true_or, or_true]
      refine B_Plane_piecesCross_47 ?_
      simp only [wp_cons, wp_nil, List.getElem?_cons_zero, List.getElem?_cons_succ, List.set_cons_zero, List.set_cons_succ, s_ireturn, p1_s, rI_i, rI_z, rI_c, z_01, z_11, rt_Plane_piecesCross, true_and, and_true, Nat.le_refl, true_implies, forall_const, not_false_eq_true, false_implies, not_true_eq_false, reduceCtorEq, tl_s, tl_n, rf_s, List.cons_append, List.nil_append, true_or, or_true]
      rw [if_pos (by simp [pcr]; omega)] at hQ; exact hQ
  · refine B_Plane_piecesCross_20 ?_
    simp only [wp_cons, wp_nil, List.getElem?_cons_zero, List.getElem?_cons_succ, List.set_cons_zero, List.set_cons_succ, s_iconst, s_ireturn, p1_s, rI_i, rI_z, rI_c, z_01, z_11, rt_Plane_piecesCross, true_and, and_true, Nat.le_refl, true_implies, forall_const, not_false_eq_true, false_implies, not_true_eq_false, reduceCtorEq, tl_s, tl_n, rf_s, List.cons_append, List.nil_append, true_or, or_true]
    rw [if_neg (by simp [pcr]; omega)] at hQ; exact hQ
theorem pow2_half (k : Nat) : (2 : Int) ^ (k + 1) / 2 = 2 ^ k := by rw [Int.pow_succ]; omega
theorem Plane_root_l {d : Nat} {n : Int} {h : g_H} {Q : g_Po} (hn : 0 ≤ n ∧ n ≤ 4294836225) : ∀ (k : Nat) (r : Int), k ≤ 16 → 0 ≤ r → r + 2 ^ k ≤ 65536 → Q (some (.int (I (rtl k r n)))) h →
    G Plane_root d 0 0 0 0 7 [some (.long (J n)), none, some (.long (J r)), none, some (.long (J (2 ^ k / 2))), none] [] h Q := by
  intro k
  induction k with
  | zero =>
    intro r hk h0 hr hQ
    have hr' : r ≤ 65535 := by omega
    refine B_Plane_root_7 ?_
    simp only [wp_cons, wp_nil, List.getElem?_cons_zero, List.getElem?_cons_succ, List.set_cons_zero, List.set_cons_succ, s_lload, ldL_s, s_lconst0, s_lconst1, s_lcmp, l2_s, s_ifCond_le, p1_s, true_and, and_true, Nat.le_refl, true_implies, forall_const, not_false_eq_true, false_implies, not_true_eq_false, reduceCtorEq, tl_s, tl_n, rf_s, List.cons_append, List.nil_append, true_or, or_true]
    refine b_cle (by omega) (by omega) (fun c => ?_) (fun c => absurd c (by decide))
    refine B_Plane_root_42 ?_
    simp only [wp_cons, wp_nil, List.getElem?_cons_zero, List.getElem?_cons_succ, List.set_cons_zero, List.set_cons_succ, s_lload_n2, ldL_s, s_l2i, l1_s, s_ireturn, p1_s, rI_i, rI_z, rI_c, z_01, z_11, rt_Plane_root, true_and, and_true, Nat.le_refl, true_implies, forall_const, not_false_eq_true, false_implies, not_true_eq_false, reduceCtorEq, tl_s, tl_n, rf_s, List.cons_append, List.nil_append, true_or, or_true, J_I (show i32 r by omega)]
    exact hQ
  | succ k ih =>
    intro r hk h0 hr hQ
    have hp : (0 : Int) < 2 ^ k := Int.pow_pos (by omega)
    have e : (2 : Int) ^ (k + 1) = 2 ^ k + 2 ^ k := by rw [Int.pow_succ]; omega
    have hs := sq_mono (a := r + 2 ^ k) (b := 65536) (by omega) (by omega)
    have hs2 := bd_sq (r + 2 ^ k)
    rw [pow2_half]
    have hle : (2 : Int) ^ k ≤ 65536 := by omega
    generalize hb : (2 : Int) ^ k = b at *
    refine B_Plane_root_7 ?_
    simp only [wp_cons, wp_nil, List.getElem?_cons_zero, List.getElem?_cons_succ, List.set_cons_zero, List.set_cons_succ, s_lload, ldL_s, s_lconst0, s_lconst1, s_lcmp, l2_s, s_ifCond_le, p1_s, true_and, and_true, Nat.le_refl, true_implies, forall_const, not_false_eq_true, false_implies, not_true_eq_false, reduceCtorEq, tl_s, tl_n, rf_s, List.cons_append, List.nil_append, true_or, or_true]
    refine b_cle (by omega) (by omega) (fun c => absurd c (by omega)) (fun c => ?_)
    refine B_Plane_root_14 ?_
    simp only [wp_cons, wp_nil, List.getElem?_cons_zero, List.getElem?_cons_succ, List.set_cons_zero, List.set_cons_succ, s_lload_n2, ldL_s, s_lload, s_ladd, l2_s, J_add, s_lmul, J_mul, s_lload_n0, s_lcmp, s_ifCond_gt, p1_s, true_and, and_true, Nat.le_refl, true_implies, forall_const, not_false_eq_true, false_implies, not_true_eq_false, reduceCtorEq, tl_s, tl_n, rf_s, List.cons_append, List.nil_append, true_or, or_true]
    unfold rtl at hQ
    rw [hb] at hQ
    refine b_cgt (by omega) (by omega) (fun c => ?_) (fun c => ?_)
    · rw [if_neg (by omega)] at hQ
      refine B_Plane_root_33 ?_
      simp only [wp_cons, wp_nil, List.getElem?_cons_zero, List.getElem?_cons_succ, List.set_cons_zero, List.set_cons_succ, s_lload, ldL_s, s_iconst, s_lshr, li_s, s_lstore, l1_s, s2_0, s2_s, kx_i, kx_r, kx_s, kx_n, kx_l, kx_0, s_goto, true_and, and_true, Nat.le_refl, true_implies, forall_const, not_false_eq_true, false_implies, not_true_eq_false, reduceCtorEq, tl_s, tl_n, rf_s, List.cons_append, List.nil_append, true_or, or_true, J_shr1 (x := b) (by omega) (by omega)]
      exact ih r (by omega) h0 (by omega) hQ
    · rw [if_pos (by omega)] at hQ
      refine B_Plane_root_28 ?_
      simp only [wp_cons, wp_nil, List.getElem?_cons_zero, List.getElem?_cons_succ, List.set_cons_zero, List.set_cons_succ, s_lload_n2, ldL_s, s_lload, s_ladd, l2_s, J_add, s_lstore_n2, l1_s, s2_0, s2_s, kx_i, kx_r, kx_s, kx_n, kx_l, kx_0, true_and, and_true, Nat.le_refl, true_implies, forall_const, not_false_eq_true, false_implies, not_true_eq_false, reduceCtorEq, tl_s, tl_n, rf_s, List.cons_append, List.nil_append, true_or, or_true]
      refine B_Plane_root_33 ?_
      simp only [wp_cons, wp_nil, List.getElem?_cons_zero, List.getElem?_cons_succ, List.set_cons_zero, List.set_cons_succ, s_lload, ldL_s, s_iconst, s_lshr, li_s, s_lstore, l1_s, s2_0, s2_s, kx_i, kx_r, kx_s, kx_n, kx_l, kx_0, s_goto, true_and, and_true, Nat.le_refl, true_implies, forall_const, not_false_eq_true, false_implies, not_true_eq_false, reduceCtorEq, tl_s, tl_n, rf_s, List.cons_append, List.nil_append, true_or, or_true, J_shr1 (x := b) (by omega) (by omega)]
      exact ih (r + b) (by omega) (by omega) (by omega) hQ
theorem Plane_root_c {d : Nat} {n : Int} {h : g_H} {Q : g_Po} (hn : 0 ≤ n ∧ n < 1073741824) (hQ : Q (some (.int (I (rt n)))) h) : Call Plane_root d 0 0 [.long (J n)] h Q := by
  refine Call.intro (by rfl) (Nat.le_of_ble_eq_true rfl) ?_
  refine G.eqL (L := [some (.long _), none, none, none, none, none]) rfl ?_
  refine B_Plane_root_0 ?_
  simp only [wp_cons, wp_nil, List.getElem?_cons_zero, List.getElem?_cons_succ, List.set_cons_zero, List.set_cons_succ, s_lconst0, s_lconst1, s_lstore_n2, l1_s, s2_0, s2_s, kx_i, kx_r, kx_s, kx_n, kx_l, kx_0, s_ldc2_w, s_lstore, true_and, and_true, Nat.le_refl, true_implies, forall_const, not_false_eq_true, false_implies, not_true_eq_false, reduceCtorEq, tl_s, tl_n, rf_s, List.cons_append, List.nil_append, true_or, or_true]
  rw [← rt_16 hn.2] at hQ
  exact Plane_root_l (by omega) 16 0 (by omega) (by omega) (by omega) hQ
theorem Integer_compare_c {d : Nat} {x y : Int} {h : g_H} {Q : g_Po} (hx : i32 x) (hy : i32 y) (hQ : Q (some (.int (I (if x < y then -1 else if x = y then 0 else 1)))) h) : Call Integer_compare d 0 0 [.int (I x), .int (I y)] h Q := by
  refine Call.intro (by rfl) (Nat.le_of_ble_eq_true rfl) ?_
  refine G.eqL (L := [some (.int _), some (.int _)]) rfl ?_
  refine B_Integer_compare_0 ?_
  simp only [wp_cons, wp_nil, List.getElem?_cons_zero, List.getElem?_cons_succ, List.set_cons_zero, List.set_cons_succ, s_iload_n0, ldI_s, s_iload_n1, s_if_icmp_ge, p2_s, true_and, and_true, Nat.le_refl, true_implies, forall_const, not_false_eq_true, false_implies, not_true_eq_false, reduceCtorEq, tl_s, tl_n, rf_s, List.cons_append, List.nil_append, true_or, or_true]
  refine b_le hy hx (fun c => ?_) (fun c => ?_)
  · refine B_Integer_compare_9 ?_
    simp only [wp_cons, wp_nil, List.getElem?_cons_zero, List.getElem?_cons_succ, List.set_cons_zero, List.set_cons_succ, s_iload_n0, ldI_s, s_iload_n1, s_if_icmp_ne, p2_s, true_and, and_true, Nat.le_refl, true_implies, forall_const, not_false_eq_true, false_implies, not_true_eq_false, reduceCtorEq, tl_s, tl_n, rf_s, List.cons_append, List.nil_append, true_or, or_true]
    rw [if_neg (by omega)] at hQ
    refine b_ne hx hy (fun c => ?_) (fun c => ?_)
    · refine B_Integer_compare_18 ?_
      simp only [wp_cons, wp_nil, List.getElem?_cons_zero, List.getElem?_cons_succ, List.set_cons_zero, List.set_cons_succ, s_iconst, true_and, and_true, Nat.le_refl, true_implies, forall_const, not_false_eq_true, false_implies, not_true_eq_false, reduceCtorEq, tl_s, tl_n, rf_s, List.cons_append, List.nil_append, true_or, or_true]
      refine B_Integer_compare_19 ?_
      simp only [wp_cons, wp_nil, List.getElem?_cons_zero, List.getElem?_cons_succ, List.set_cons_zero, List.set_cons_succ, s_ireturn, p1_s, rI_i, rI_z, rI_c, z_01, z_11, rt_Integer_compare, true_and, and_true, Nat.le_refl, true_implies, forall_const, not_false_eq_true, false_implies, not_true_eq_false, reduceCtorEq, tl_s, tl_n, rf_s, List.cons_append, List.nil_append, true_or, or_true]
      rw [if_neg c] at hQ; exact hQ
    · refine B_Integer_compare_14 ?_
      simp only [wp_cons, wp_nil, List.getElem?_cons_zero, List.getElem?_cons_succ, List.set_cons_zero, List.set_cons_succ, s_iconst, s_goto, true_and, and_true, Nat.le_refl, true_implies, forall_const, not_false_eq_true, false_implies, not_true_eq_false, reduceCtorEq, tl_s, tl_n, rf_s, List.cons_append, List.nil_append, true_or, or_true]
      refine B_Integer_compare_19 ?_
      simp only [wp_cons, wp_nil, List.getElem?_cons_zero, List.getElem?_cons_succ, List.set_cons_zero, List.set_cons_succ, s_ireturn, p1_s, rI_i, rI_z, rI_c, z_01, z_11, rt_Integer_compare, true_and, and_true, Nat.le_refl, true_implies, forall_const, not_false_eq_true, false_implies, not_true_eq_false, reduceCtorEq, tl_s, tl_n, rf_s, List.cons_append, List.nil_append, true_or, or_true]
      rw [if_pos c] at hQ; exact hQ
  · refine B_Integer_compare_5 ?_
    simp only [wp_cons, wp_nil, List.getElem?_cons_zero, List.getElem?_cons_succ, List.set_cons_zero, List.set_cons_succ, s_iconst, s_goto, true_and, and_true, Nat.le_refl, true_implies, forall_const, not_false_eq_true, false_implies, not_true_eq_false, reduceCtorEq, tl_s, tl_n, rf_s, List.cons_append, List.nil_append, true_or, or_true]
    refine B_Integer_compare_19 ?_
    simp only [wp_cons, wp_nil, List.getElem?_cons_zero, List.getElem?_cons_succ, List.set_cons_zero, List.set_cons_succ, s_ireturn, p1_s, rI_i, rI_z, rI_c, z_01, z_11, rt_Integer_compare, true_and, and_true, Nat.le_refl, true_implies, forall_const, not_false_eq_true, false_implies, not_true_eq_false, reduceCtorEq, tl_s, tl_n, rf_s, List.cons_append, List.nil_append, true_or, or_true]
    rw [if_pos c] at hQ; exact hQ
