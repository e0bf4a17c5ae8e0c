theorem s_iload_n0 (k d mc ms : Nat) (Q : g_Po) (K : g_K) (pc len a1 a2 a3 : Nat) (v : Int) (cs ss : Nat) (L : List (Option Value)) (st : List Value) (h : g_H) : g_st k d mc ms Q K (pc, len, a1, a2, a3, v, .iload_n 0) cs ss L st h = g_ldI L[0]? (fun x => K cs ss L (.int x :: st) h) := rfl
theorem s_iload_n1 (k d mc ms : Nat) (Q : g_Po) (K : g_K) (pc len a1 a2 a3 : Nat) (v : Int) (cs ss : Nat) (L : List (Option Value)) (st : List Value) (h : g_H) : g_st k d mc ms Q K (pc, len, a1, a2, a3, v, .iload_n 1) cs ss L st h = g_ldI L[1]? (fun x => K cs ss L (.int x :: st) h) := rfl
theorem s_iload_n2 (k d mc ms : Nat) (Q : g_Po) (K : g_K) (pc len a1 a2 a3 : Nat) (v : Int) (cs ss : Nat) (L : List (Option Value)) (st : List Value) (h : g_H) : g_st k d mc ms Q K (pc, len, a1, a2, a3, v, .iload_n 2) cs ss L st h = g_ldI L[2]? (fun x => K cs ss L (.int x :: st) h) := rfl
theorem s_iload_n3 (k d mc ms : Nat) (Q : g_Po) (K : g_K) (pc len a1 a2 a3 : Nat) (v : Int) (cs ss : Nat) (L : List (Option Value)) (st : List Value) (h : g_H) : g_st k d mc ms Q K (pc, len, a1, a2, a3, v, .iload_n 3) cs ss L st h = g_ldI L[3]? (fun x => K cs ss L (.int x :: st) h) := rfl
theorem s_lload_n0 (k d mc ms : Nat) (Q : g_Po) (K : g_K) (pc len a1 a2 a3 : Nat) (v : Int) (cs ss : Nat) (L : List (Option Value)) (st : List Value) (h : g_H) : g_st k d mc ms Q K (pc, len, a1, a2, a3, v, .lload_n 0) cs ss L st h = g_ldL L[0]? (fun x => K cs ss L (.long x :: st) h) := rfl
theorem s_lload_n1 (k d mc ms : Nat) (Q : g_Po) (K : g_K) (pc len a1 a2 a3 : Nat) (v : Int) (cs ss : Nat) (L : List (Option Value)) (st : List Value) (h : g_H) : g_st k d mc ms Q K (pc, len, a1, a2, a3, v, .lload_n 1) cs ss L st h = g_ldL L[1]? (fun x => K cs ss L (.long x :: st) h) := rfl
theorem s_lload_n2 (k d mc ms : Nat) (Q : g_Po) (K : g_K) (pc len a1 a2 a3 : Nat) (v : Int) (cs ss : Nat) (L : List (Option Value)) (st : List Value) (h : g_H) : g_st k d mc ms Q K (pc, len, a1, a2, a3, v, .lload_n 2) cs ss L st h = g_ldL L[2]? (fun x => K cs ss L (.long x :: st) h) := rfl
theorem s_lload_n3 (k d mc ms : Nat) (Q : g_Po) (K : g_K) (pc len a1 a2 a3 : Nat) (v : Int) (cs ss : Nat) (L : List (Option Value)) (st : List Value) (h : g_H) : g_st k d mc ms Q K (pc, len, a1, a2, a3, v, .lload_n 3) cs ss L st h = g_ldL L[3]? (fun x => K cs ss L (.long x :: st) h) := rfl
theorem s_aload_n0 (k d mc ms : Nat) (Q : g_Po) (K : g_K) (pc len a1 a2 a3 : Nat) (v : Int) (cs ss : Nat) (L : List (Option Value)) (st : List Value) (h : g_H) : g_st k d mc ms Q K (pc, len, a1, a2, a3, v, .aload_n 0) cs ss L st h = g_ldA L[0]? (fun v => K cs ss L (v :: st) h) := rfl
theorem s_istore_n0 (k d mc ms : Nat) (Q : g_Po) (K : g_K) (pc len a1 a2 a3 : Nat) (v : Int) (cs ss : Nat) (L : List (Option Value)) (st : List Value) (h : g_H) : g_st k d mc ms Q K (pc, len, a1, a2, a3, v, .istore_n 0) cs ss L st h = g_p1 st (fun x r => K cs ss (g_s1 L 0 (.int x)) r h) := rfl
theorem s_lstore_n0 (k d mc ms : Nat) (Q : g_Po) (K : g_K) (pc len a1 a2 a3 : Nat) (v : Int) (cs ss : Nat) (L : List (Option Value)) (st : List Value) (h : g_H) : g_st k d mc ms Q K (pc, len, a1, a2, a3, v, .lstore_n 0) cs ss L st h = g_l1 st (fun x r => K cs ss (g_s2 L 0 (.long x)) r h) := rfl
theorem s_astore_n0 (k d mc ms : Nat) (Q : g_Po) (K : g_K) (pc len a1 a2 a3 : Nat) (v : Int) (cs ss : Nat) (L : List (Option Value)) (st : List Value) (h : g_H) : g_st k d mc ms Q K (pc, len, a1, a2, a3, v, .astore_n 0) cs ss L st h = g_pA st (fun x r => K cs ss (g_s1 L 0 (x)) r h) := rfl
theorem s_aload_n1 (k d mc ms : Nat) (Q : g_Po) (K : g_K) (pc len a1 a2 a3 : Nat) (v : Int) (cs ss : Nat) (L : List (Option Value)) (st : List Value) (h : g_H) : g_st k d mc ms Q K (pc, len, a1, a2, a3, v, .aload_n 1) cs ss L st h = g_ldA L[1]? (fun v => K cs ss L (v :: st) h) := rfl
theorem s_istore_n1 (k d mc ms : Nat) (Q : g_Po) (K : g_K) (pc len a1 a2 a3 : Nat) (v : Int) (cs ss : Nat) (L : List (Option Value)) (st : List Value) (h : g_H) : g_st k d mc ms Q K (pc, len, a1, a2, a3, v, .istore_n 1) cs ss L st h = g_p1 st (fun x r => K cs ss (g_s1 L 1 (.int x)) r h) := rfl
theorem s_lstore_n1 (k d mc ms : Nat) (Q : g_Po) (K : g_K) (pc len a1 a2 a3 : Nat) (v : Int) (cs ss : Nat) (L : List (Option Value)) (st : List Value) (h : g_H) : g_st k d mc ms Q K (pc, len, a1, a2, a3, v, .lstore_n 1) cs ss L st h = g_l1 st (fun x r => K cs ss (g_s2 L 1 (.long x)) r h) := rfl
theorem s_astore_n1 (k d mc ms : Nat) (Q : g_Po) (K : g_K) (pc len a1 a2 a3 : Nat) (v : Int) (cs ss : Nat) (L : List (Option Value)) (st : List Value) (h : g_H) : g_st k d mc ms Q K (pc, len, a1, a2, a3, v, .astore_n 1) cs ss L st h = g_pA st (fun x r => K cs ss (g_s1 L 1 (x)) r h) := rfl
theorem s_aload_n2 (k d mc ms : Nat) (Q : g_Po) (K : g_K) (pc len a1 a2 a3 : Nat) (v : Int) (cs ss : Nat) (L : List (Option Value)) (st : List Value) (h : g_H) : g_st k d mc ms Q K (pc, len, a1, a2, a3, v, .aload_n 2) cs ss L st h = g_ldA L[2]? (fun v => K cs ss L (v :: st) h) := rfl
theorem s_istore_n2 (k d mc ms : Nat) (Q : g_Po) (K : g_K) (pc len a1 a2 a3 : Nat) (v : Int) (cs ss : Nat) (L : List (Option Value)) (st : List Value) (h : g_H) : g_st k d mc ms Q K (pc, len, a1, a2, a3, v, .istore_n 2) cs ss L st h = g_p1 st (fun x r => K cs ss (g_s1 L 2 (.int x)) r h) := rfl
theorem s_lstore_n2 (k d mc ms : Nat) (Q : g_Po) (K : g_K) (pc len a1 a2 a3 : Nat) (v : Int) (cs ss : Nat) (L : List (Option Value)) (st : List Value) (h : g_H) : g_st k d mc ms Q K (pc, len, a1, a2, a3, v, .lstore_n 2) cs ss L st h = g_l1 st (fun x r => K cs ss (g_s2 L 2 (.long x)) r h) := rfl
theorem s_astore_n2 (k d mc ms : Nat) (Q : g_Po) (K : g_K) (pc len a1 a2 a3 : Nat) (v : Int) (cs ss : Nat) (L : List (Option Value)) (st : List Value) (h : g_H) : g_st k d mc ms Q K (pc, len, a1, a2, a3, v, .astore_n 2) cs ss L st h = g_pA st (fun x r => K cs ss (g_s1 L 2 (x)) r h) := rfl
theorem s_aload_n3 (k d mc ms : Nat) (Q : g_Po) (K : g_K) (pc len a1 a2 a3 : Nat) (v : Int) (cs ss : Nat) (L : List (Option Value)) (st : List Value) (h : g_H) : g_st k d mc ms Q K (pc, len, a1, a2, a3, v, .aload_n 3) cs ss L st h = g_ldA L[3]? (fun v => K cs ss L (v :: st) h) := rfl
theorem s_istore_n3 (k d mc ms : Nat) (Q : g_Po) (K : g_K) (pc len a1 a2 a3 : Nat) (v : Int) (cs ss : Nat) (L : List (Option Value)) (st : List Value) (h : g_H) : g_st k d mc ms Q K (pc, len, a1, a2, a3, v, .istore_n 3) cs ss L st h = g_p1 st (fun x r => K cs ss (g_s1 L 3 (.int x)) r h) := rfl
theorem s_lstore_n3 (k d mc ms : Nat) (Q : g_Po) (K : g_K) (pc len a1 a2 a3 : Nat) (v : Int) (cs ss : Nat) (L : List (Option Value)) (st : List Value) (h : g_H) : g_st k d mc ms Q K (pc, len, a1, a2, a3, v, .lstore_n 3) cs ss L st h = g_l1 st (fun x r => K cs ss (g_s2 L 3 (.long x)) r h) := rfl
theorem s_astore_n3 (k d mc ms : Nat) (Q : g_Po) (K : g_K) (pc len a1 a2 a3 : Nat) (v : Int) (cs ss : Nat) (L : List (Option Value)) (st : List Value) (h : g_H) : g_st k d mc ms Q K (pc, len, a1, a2, a3, v, .astore_n 3) cs ss L st h = g_pA st (fun x r => K cs ss (g_s1 L 3 (x)) r h) := rfl
theorem s_lconst0 (k d mc ms : Nat) (Q : g_Po) (K : g_K) (pc len a1 a2 a3 : Nat) (v : Int) (cs ss : Nat) (L : List (Option Value)) (st : List Value) (h : g_H) : g_st k d mc ms Q K (pc, len, a1, a2, a3, v, .lconst 0) cs ss L st h = K cs ss L (.long (J 0) :: st) h := rfl
theorem s_lconst1 (k d mc ms : Nat) (Q : g_Po) (K : g_K) (pc len a1 a2 a3 : Nat) (v : Int) (cs ss : Nat) (L : List (Option Value)) (st : List Value) (h : g_H) : g_st k d mc ms Q K (pc, len, a1, a2, a3, v, .lconst 1) cs ss L st h = K cs ss L (.long (J 1) :: st) h := rfl
theorem G.eqL {k d mc ms cs ss pc : Nat} {L L0 : List (Option Value)} {st : List Value} {h : g_H} {Q : g_Po} (e : L0 = L) (hG : G k d mc ms cs ss pc L st h Q) : G k d mc ms cs ss pc L0 st h Q := e ▸ hG
/-! ===== rows for running a block ===== -/
theorem ldI_s (x : Int32) (F : Int32 → Prop) : g_ldI (some (some (.int x))) F = F x := rfl
theorem ldL_s (x : Int64) (F : Int64 → Prop) : g_ldL (some (some (.long x))) F = F x := rfl
theorem ldA_r (a : Nat) (F : Value → Prop) : g_ldA (some (some (.ref a))) F = F (.ref a) := rfl
theorem ldA_n (F : Value → Prop) : g_ldA (some (some .null)) F = F .null := rfl
theorem ldA_s (a : Nat) (F : Value → Prop) : g_ldA (some (some (.retAddr a))) F = F (.retAddr a) := rfl
theorem p1_s (x : Int32) (r : List Value) (F : Int32 → List Value → Prop) : g_p1 (.int x :: r) F = F x r := rfl
theorem p2_s (x y : Int32) (r : List Value) (F : Int32 → Int32 → List Value → Prop) : g_p2 (.int y :: .int x :: r) F = F x y r := rfl
theorem l1_s (x : Int64) (r : List Value) (F : Int64 → List Value → Prop) : g_l1 (.long x :: r) F = F x r := rfl
theorem l2_s (x y : Int64) (r : List Value) (F : Int64 → Int64 → List Value → Prop) : g_l2 (.long y :: .long x :: r) F = F x y r := rfl
theorem li_s (x : Int64) (y : Int32) (r : List Value) (F : Int64 → Int32 → List Value → Prop) : g_li (.int y :: .long x :: r) F = F x y r := rfl
theorem pA_r (a : Nat) (r : List Value) (F : Value → List Value → Prop) : g_pA (.ref a :: r) F = F (.ref a) r := rfl
theorem pA_n (r : List Value) (F : Value → List Value → Prop) : g_pA (.null :: r) F = F .null r := rfl
theorem pR_s (a : Nat) (r : List Value) (F : Nat → List Value → Prop) : g_pR (.ref a :: r) F = F a r := rfl
theorem iR_s (a : Nat) (i : Int32) (r : List Value) (F : Nat → Int32 → List Value → Prop) : g_iR (.int i :: .ref a :: r) F = F a i r := rfl
theorem iiR_s (a : Nat) (i x : Int32) (r : List Value) (F : Nat → Int32 → Int32 → List Value → Prop) : g_iiR (.int x :: .int i :: .ref a :: r) F = F a i x r := rfl
theorem riR_s (a b : Nat) (i : Int32) (r : List Value) (F : Nat → Int32 → Nat → List Value → Prop) : g_riR (.ref b :: .int i :: .ref a :: r) F = F a i b r := rfl
theorem p1v_i (x : Int32) (r : List Value) (F : Value → List Value → Prop) : g_p1v (.int x :: r) F = F (.int x) r := by simp [g_p1v, Value.category]
theorem p1v_r (a : Nat) (r : List Value) (F : Value → List Value → Prop) : g_p1v (.ref a :: r) F = F (.ref a) r := by simp [g_p1v, Value.category]
theorem p2v_s (x : Int32) (a : Nat) (r : List Value) (F : Value → Value → List Value → Prop) : g_p2v (.int x :: .ref a :: r) F = F (.int x) (.ref a) r := by simp [g_p2v, Value.category]
theorem ia_s (t n : Nat) (f : Nat → Int32) (F : Nat → (Nat → Int32) → Prop) : g_ia t (some (.inl (t, n, f))) F = F n f := by simp [g_ia]
theorem ra_s (t n : Nat) (f : Nat → Option Nat) (F : Nat → Nat → (Nat → Option Nat) → Prop) : g_ra (some (.inr (.inl (t, n, f)))) F = F t n f := rfl
theorem ob_s (ci : Nat) (fs : List Value) (F : List Value → Prop) : g_ob ci (some (.inr (.inr (ci, fs)))) F = F fs := by simp [g_ob]
theorem al_0 (n : Nat) (f : Nat → Int32) (F : Nat → Prop) : g_al (some (.inl (0, n, f))) F = F n := by simp [g_al]
theorem al_1 (n : Nat) (f : Nat → Int32) (F : Nat → Prop) : g_al (some (.inl (1, n, f))) F = F n := by simp [g_al]
theorem al_2 (n : Nat) (f : Nat → Option Nat) (F : Nat → Prop) : g_al (some (.inr (.inl (2, n, f)))) F = F n := by simp [g_al]
theorem al_3 (n : Nat) (f : Nat → Option Nat) (F : Nat → Prop) : g_al (some (.inr (.inl (3, n, f)))) F = F n := by simp [g_al]
theorem gt_s (v : Value) (F : Value → Prop) : g_gt (some v) F = F v := rfl
theorem pv_i (x : Int32) (a : Nat) (r : List Value) (F : Value → Nat → List Value → Prop) : g_pv 0 (.int x :: .ref a :: r) F = F (.int x) a r := by simp [g_pv]
theorem pv_z (x : Int32) (a : Nat) (r : List Value) (F : Value → Nat → List Value → Prop) : g_pv 1 (.int x :: .ref a :: r) F = ((x = I 0 ∨ x = I 1) ∧ F (.int x) a r) := by simp [g_pv]
theorem pv_r (a b : Nat) (r : List Value) (F : Value → Nat → List Value → Prop) : g_pv 2 (.ref b :: .ref a :: r) F = F (.ref b) a r := by simp [g_pv]
theorem pv_f (a b : Nat) (r : List Value) (F : Value → Nat → List Value → Prop) : g_pv 12 (.ref b :: .ref a :: r) F = F (.ref b) a r := by simp [g_pv]
theorem rc_s (b : Nat) (r : List Value) (F : Nat → List Value → Prop) : g_rc (.ref b :: r) F = F b r := rfl
theorem rI_i (x : Int32) : g_rI (some .int) x = True := rfl
theorem rI_z (x : Int32) : g_rI (some .boolean) x = (x = I 0 ∨ x = I 1) := rfl
theorem rI_c (x : Int32) : g_rI (some .char) x = ((x.toUInt32 % 65536).toInt32 = x) := rfl
def g_kx (o : Option (Option Value)) (L : List (Option Value)) (j : Nat) : List (Option Value) := match o with
  | some (some v) => if g_c2 v = true then L.set j none else L
  | _ => L
theorem kx_i (x : Int32) (L : List (Option Value)) (j : Nat) : g_kx (some (some (.int x))) L j = L := rfl
theorem kx_r (x : Nat) (L : List (Option Value)) (j : Nat) : g_kx (some (some (.ref x))) L j = L := rfl
theorem kx_s (x : Nat) (L : List (Option Value)) (j : Nat) : g_kx (some (some (.retAddr x))) L j = L := rfl
theorem kx_n (L : List (Option Value)) (j : Nat) : g_kx (some (some .null)) L j = L := rfl
theorem kx_l (x : Int64) (L : List (Option Value)) (j : Nat) : g_kx (some (some (.long x))) L j = L.set j none := rfl
theorem kx_0 (L : List (Option Value)) (j : Nat) : g_kx (some none) L j = L := rfl
theorem s1_0 (L : List (Option Value)) (v : Value) : g_s1 L 0 v = L.set 0 (some v) := rfl
theorem s1_s (L : List (Option Value)) (j : Nat) (v : Value) : g_s1 L (j + 1) v = (g_kx L[j]? L j).set (j + 1) (some v) := rfl
theorem s2_0 (L : List (Option Value)) (v : Value) : g_s2 L 0 v = (L.set 0 (some v)).set 1 none := rfl
theorem s2_s (L : List (Option Value)) (j : Nat) (v : Value) : g_s2 L (j + 1) v = ((g_kx L[j]? L j).set (j + 1) (some v)).set (j + 1 + 1) none := rfl
theorem ne_k1000 : (¬ I 1000 = I 0) = True := by simp only [eq_iff_iff, iff_true]; decide
theorem ne_k2 : (¬ I 2 = I 0) = True := by simp only [eq_iff_iff, iff_true]; decide
theorem z_01 : (I 0 = I 0 ∨ I 0 = I 1) = True := by simp
theorem z_11 : (I 1 = I 0 ∨ I 1 = I 1) = True := by simp
theorem tl_s (v : Value) : (some v).toList = [v] := rfl
theorem tl_n : (none : Option Value).toList = [] := rfl
/-! ===== arithmetic of named whole numbers ===== -/
theorem I_add (x y : Int) : I x + I y = I (x + y) := (Int32.ofInt_add x y).symm
theorem I_sub (x y : Int) : I x - I y = I (x - y) := (Int32.ofInt_sub x y).symm
theorem I_mul (x y : Int) : I x * I y = I (x * y) := (Int32.ofInt_mul x y).symm
theorem I_neg (x : Int) : -I x = I (-x) := (Int32.ofInt_neg x).symm
theorem J_add (x y : Int) : J x + J y = J (x + y) := (Int64.ofInt_add x y).symm
theorem J_sub (x y : Int) : J x - J y = J (x - y) := (Int64.ofInt_sub x y).symm
theorem J_mul (x y : Int) : J x * J y = J (x * y) := (Int64.ofInt_mul x y).symm
theorem J_neg (x : Int) : -J x = J (-x) := (Int64.ofInt_neg x).symm
theorem I_toInt {x : Int} (h : -2147483648 ≤ x ∧ x ≤ 2147483647) : (I x).toInt = x := by
  have e : Int32.size = 4294967296 := rfl
  unfold I
  rw [Int32.toInt_ofInt, e, Int.bmod_eq_of_le (by omega) (by omega)]
theorem I_of (x : Int32) : x = I x.toInt := (Int32.ofInt_toInt x).symm
theorem I_rng (x : Int32) : -2147483648 ≤ x.toInt ∧ x.toInt ≤ 2147483647 := ⟨Int32.le_toInt x, by have := Int32.toInt_lt x; omega⟩
theorem J_toInt {x : Int} (h : -9223372036854775808 ≤ x ∧ x ≤ 9223372036854775807) : (J x).toInt = x := by
  have e : Int64.size = 18446744073709551616 := rfl
  unfold J
  rw [Int64.toInt_ofInt, e, Int.bmod_eq_of_le (by omega) (by omega)]
theorem I_lt {x y : Int} (hx : -2147483648 ≤ x ∧ x ≤ 2147483647) (hy : -2147483648 ≤ y ∧ y ≤ 2147483647) : I x < I y ↔ x < y := by
  rw [Int32.lt_iff_toInt_lt, I_toInt hx, I_toInt hy]
theorem I_le {x y : Int} (hx : -2147483648 ≤ x ∧ x ≤ 2147483647) (hy : -2147483648 ≤ y ∧ y ≤ 2147483647) : I x ≤ I y ↔ x ≤ y := by
  rw [Int32.le_iff_toInt_le, I_toInt hx, I_toInt hy]
theorem I_eq {x y : Int} (hx : -2147483648 ≤ x ∧ x ≤ 2147483647) (hy : -2147483648 ≤ y ∧ y ≤ 2147483647) : I x = I y ↔ x = y := by
  rw [← Int32.toInt_inj, I_toInt hx, I_toInt hy]
theorem J_eq {x y : Int} (hx : -9223372036854775808 ≤ x ∧ x ≤ 9223372036854775807) (hy : -9223372036854775808 ≤ y ∧ y ≤ 9223372036854775807) : J x = J y ↔ x = y := by
  rw [← Int64.toInt_inj, J_toInt hx, J_toInt hy]
theorem J_lt {x y : Int} (hx : -9223372036854775808 ≤ x ∧ x ≤ 9223372036854775807) (hy : -9223372036854775808 ≤ y ∧ y ≤ 9223372036854775807) : J x < J y ↔ x < y := by
  rw [Int64.lt_iff_toInt_lt, J_toInt hx, J_toInt hy]
theorem I_div {x y : Int} (hx : -2147483648 ≤ x ∧ x ≤ 2147483647) (hy : 0 < y ∧ y ≤ 2147483647) : I x / I y = I (x.tdiv y) := by
  rw [← Int32.toInt_inj, Int32.toInt_div, I_toInt hx, I_toInt ⟨by omega, hy.2⟩]
  have h1 : -2147483648 ≤ x.tdiv y ∧ x.tdiv y ≤ 2147483647 := by
    have h2 := Int.natAbs_tdiv_le_natAbs x y
    by_cases hx0 : 0 ≤ x
    · have := Int.tdiv_nonneg hx0 (by omega : 0 ≤ y); omega
    · have : x.tdiv y ≤ 0 := by
        have := Int.tdiv_nonneg (a := -x) (by omega) (by omega : 0 ≤ y)
        rw [Int.neg_tdiv] at this; omega
      omega
  rw [I_toInt h1, Int.bmod_eq_of_le (by omega) (by omega)]
theorem J_div {x y : Int} (hx : -9223372036854775808 ≤ x ∧ x ≤ 9223372036854775807) (hy : 0 < y ∧ y ≤ 9223372036854775807) : J x / J y = J (x.tdiv y) := by
  rw [← Int64.toInt_inj, Int64.toInt_div, J_toInt hx, J_toInt ⟨by omega, hy.2⟩]
  have h1 : -9223372036854775808 ≤ x.tdiv y ∧ x.tdiv y ≤ 9223372036854775807 := by
    have h2 := Int.natAbs_tdiv_le_natAbs x y
    by_cases hx0 : 0 ≤ x
    · have := Int.tdiv_nonneg hx0 (by omega : 0 ≤ y); omega
    · have : x.tdiv y ≤ 0 := by
        have := Int.tdiv_nonneg (a := -x) (by omega) (by omega : 0 ≤ y)
        rw [Int.neg_tdiv] at this; omega
      omega
  rw [J_toInt h1, Int.bmod_eq_of_le (by omega) (by omega)]
theorem I_J {x : Int} (hx : -2147483648 ≤ x ∧ x ≤ 2147483647) : (I x).toInt64 = J x := by
  rw [← Int64.toInt_inj, Int32.toInt_toInt64, I_toInt hx, J_toInt (by omega)]
theorem J_I {x : Int} (hx : -2147483648 ≤ x ∧ x ≤ 2147483647) : (J x).toInt32 = I x := by
  unfold J I
  rw [Int64.toInt32_ofInt]
/-- branches over named numbers: the place is given by the goal -/
theorem b_lt {x y : Int} {A B : Prop} (hx : -2147483648 ≤ x ∧ x ≤ 2147483647) (hy : -2147483648 ≤ y ∧ y ≤ 2147483647) (a : x < y → A) (b : y ≤ x → B) : (I x < I y → A) ∧ (¬ I x < I y → B) := by
  rw [I_lt hx hy]; exact ⟨a, fun h => b (by omega)⟩
theorem b_le {x y : Int} {A B : Prop} (hx : -2147483648 ≤ x ∧ x ≤ 2147483647) (hy : -2147483648 ≤ y ∧ y ≤ 2147483647) (a : x ≤ y → A) (b : y < x → B) : (I x ≤ I y → A) ∧ (¬ I x ≤ I y → B) := by
  rw [I_le hx hy]; exact ⟨a, fun h => b (by omega)⟩
theorem b_eq {x y : Int} {A B : Prop} (hx : -2147483648 ≤ x ∧ x ≤ 2147483647) (hy : -2147483648 ≤ y ∧ y ≤ 2147483647) (a : x = y → A) (b : ¬ x = y → B) : (I x = I y → A) ∧ (¬ I x = I y → B) := by
  rw [I_eq hx hy]; exact ⟨a, b⟩
theorem b_ne {x y : Int} {A B : Prop} (hx : -2147483648 ≤ x ∧ x ≤ 2147483647) (hy : -2147483648 ≤ y ∧ y ≤ 2147483647) (a : ¬ x = y → A) (b : x = y → B) : (¬ I x = I y → A) ∧ (I x = I y → B) := by
  rw [I_eq hx hy]; exact ⟨a, b⟩
theorem ix_nat {x : Int} {n : Nat} (h : 0 ≤ x ∧ x < n) (hn : n < 2147483648) : ∃ j : Nat, (j < n ∧ n < 2147483648) ∧ I x = I j ∧ (j : Int) = x := ⟨x.toNat, ⟨by omega, hn⟩, by rw [Int.toNat_of_nonneg h.1], Int.toNat_of_nonneg h.1⟩
theorem upd_same (f : Nat → Int32) (j : Nat) (x : Int32) : upd f j x j = x := by simp [upd]
theorem upd_ne (f : Nat → Int32) {j k : Nat} (x : Int32) (h : ¬ k = j) : upd f j x k = f k := by simp [upd, h]
/-! ===== cells ===== -/
theorem h_at {h : g_H} {a : Nat} {e : g_C} (v : g_C) (ha : h[a]? = some e) : (h.set a v)[a]? = some v := by
  rw [List.getElem?_set_self (List.getElem?_eq_some_iff.mp ha).1]
theorem h_ne {h : g_H} {a b : Nat} (v : g_C) (hab : ¬ a = b) : (h.set a v)[b]? = h[b]? := List.getElem?_set_ne hab
theorem rf_s (a : Nat) : va_rf (some a) = .ref a := rfl
theorem I_cg {x y : Int} (h : x = y) : I x = I y := by rw [h]
