/-! ===== abstract cells and values: an abstract address a stands for B.1 + a ===== -/
abbrev g_C : Type := (Nat × Nat × (Nat → Int32)) ⊕ ((Nat × Nat × (Nat → Option Nat)) ⊕ (Nat × List Value))
abbrev g_H : Type := List g_C
abbrev iA (t n : Nat) (f : Nat → Int32) : g_C := .inl (t, n, f)
abbrev rA (t n : Nat) (f : Nat → Option Nat) : g_C := .inr (.inl (t, n, f))
abbrev ob (ci : Nat) (fs : List Value) : g_C := .inr (.inr (ci, fs))
/-- the base of the abstract addresses; the script's own address -/
abbrev g_Bs : Type := Nat × Nat
def g_cv (B : g_Bs) (v : Value) : Value := match v with
  | .ref a => .ref (B.1 + a)
  | .retAddr _ => .ref B.2
  | v => v
def g_cc (B : g_Bs) (cA : Nat → ClassId) (e : g_C) : va_E := match e with
  | .inl (t, n, f) => .inl (cA t, n, .inl f)
  | .inr (.inl (t, n, f)) => .inl (cA t, n, .inr (.inr (.inr (.inr (fun i => (f i).map (fun a => B.1 + a))))))
  | .inr (.inr (ci, fs)) => .inr (ci, fs.map (g_cv B))
def g_wd (B : g_Bs) (cA : Nat → ClassId) (h : g_H) : va_W := h.mapIdx (fun k e => (B.1 + k, g_cc B cA e))
def g_tys (cA : Nat → ClassId) : List (ClassId × FieldType) := [(cA 0, .int), (cA 1, .char), (cA 2, .object "VectorPens$Stroke"), (cA 3, .object "VectorPens$Drawing")]
def g_A (B : g_Bs) : Nat → Prop := fun q => B.1 ≤ q
/-- the script: an array of at most 260 ints, below the base -/
def g_sc (B : g_Bs) (cA : Nat → ClassId) (H : Heap) : Prop := B.2 < B.1 ∧ ∃ (c : Cell) (xs : Nat → Int32), H[B.2]? = some c ∧ c.cls = cA 4 ∧ (∀ k, c.vm ≠ .statics k) ∧ c.vm ≠ .unknown ∧ c.slots.size ≤ 260 ∧ ∀ j : Nat, j < c.slots.size → c.slots[j]? = some (.int (xs j))
theorem g_sc.kp {B : g_Bs} {cA : Nat → ClassId} {H H1 : Heap} (h : g_sc B cA H) (e : H1[B.2]? = H[B.2]?) : g_sc B cA H1 := by
  obtain ⟨h0, c, xs, h1, h2⟩ := h
  exact ⟨h0, c, xs, e.trans h1, h2⟩
def g_RH (B : g_Bs) (D : va_G) (cA : Nat → ClassId) (h : g_H) (H : Heap) : Prop := H.size = B.1 + h.length ∧ va_P D g_cls (g_wd B cA h) H ∧ g_sc B cA H
theorem g_wd_get {B : g_Bs} {cA : Nat → ClassId} {h : g_H} {k : Nat} : (g_wd B cA h)[k]? = (h[k]?).map (fun e => (B.1 + k, g_cc B cA e)) := by
  simp [g_wd, List.getElem?_mapIdx]
theorem g_wd_at {B : g_Bs} {cA : Nat → ClassId} {h : g_H} {k : Nat} {e : g_C} (hk : h[k]? = some e) : (g_wd B cA h)[k]? = some (B.1 + k, g_cc B cA e) := by
  rw [g_wd_get, hk]; rfl
theorem g_wd_set {B : g_Bs} {cA : Nat → ClassId} {h : g_H} {k : Nat} {e : g_C} : (g_wd B cA h).set k (B.1 + k, g_cc B cA e) = g_wd B cA (h.set k e) := by
  apply List.ext_getElem?
  intro i
  rw [g_wd_get]
  by_cases hi : k = i
  · subst hi
    by_cases hl : k < h.length
    · rw [List.getElem?_set_self (by simpa [g_wd] using hl), List.getElem?_set_self hl]; rfl
    · rw [List.getElem?_eq_none (by simp [g_wd]; omega), List.getElem?_eq_none (by simp; omega)]; rfl
  · rw [List.getElem?_set_ne hi, List.getElem?_set_ne hi, g_wd_get]
theorem g_wd_push {B : g_Bs} {cA : Nat → ClassId} {h : g_H} {e : g_C} : g_wd B cA (h ++ [e]) = g_wd B cA h ++ [(B.1 + h.length, g_cc B cA e)] := by
  simp [g_wd, List.mapIdx_append]
theorem g_wd_D {B : g_Bs} {cA : Nat → ClassId} {h : g_H} : va_D (g_A B) (g_wd B cA h) := by
  have key : ∀ (k : Nat) (q : Nat × va_E), (g_wd B cA h)[k]? = some q → q.1 = B.1 + k := by
    intro k q hk
    rw [g_wd_get] at hk
    cases hc : h[k]? with
    | none => rw [hc] at hk; cases hk
    | some e => rw [hc] at hk; cases hk; rfl
  refine ⟨fun i j p q hi hj e => ?_, fun k q hk => ?_⟩
  · have := key i p hi; have := key j q hj; omega
  · have := key k q hk
    show B.1 ≤ q.1
    omega
theorem g_RH.put {B : g_Bs} {D : va_G} {cA : Nat → ClassId} {h : g_H} {H H1 : Heap} {a : Nat} {e0 e : g_C} (hH : g_RH B D cA h H) (hk : h[a]? = some e0) (hz : H1.size = H.size) (oq : ∀ q : Nat, q ≠ B.1 + a → H1[q]? = H[q]?) (he : va_at D g_cls (B.1 + a, g_cc B cA e) H1) : g_RH B D cA (h.set a e) H1 := by
  refine ⟨by rw [hz, hH.1, List.length_set], ?_, hH.2.2.kp (oq _ (by have := hH.2.2.1; omega))⟩
  rw [← g_wd_set]
  exact hH.2.1.set g_wd_D (g_wd_at hk) he oq
theorem g_RH.push {B : g_Bs} {D : va_G} {cA : Nat → ClassId} {h : g_H} {H H1 : Heap} {e : g_C} (hH : g_RH B D cA h H) (hz : H1.size = H.size + 1) (oq : ∀ q : Nat, q < H.size → H1[q]? = H[q]?) (he : va_at D g_cls (B.1 + h.length, g_cc B cA e) H1) : g_RH B D cA (h ++ [e]) H1 := by
  refine ⟨by rw [hz, hH.1, List.length_append]; rfl, ?_, hH.2.2.kp (oq _ (by have := hH.2.2.1; have := hH.1; omega))⟩
  rw [g_wd_push]
  refine (hH.2.1.kept (fun k q hk => oq q.1 ((hH.2.1 k q hk).lt))).app (fun k q hk => ?_)
  have hz : k < 1 := (List.getElem?_eq_some_iff.mp hk).1
  rw [show k = 0 by omega] at hk
  cases hk
  exact he
/-! ===== whole numbers: an int or a long is named by a whole number ===== -/
theorem I_zero : I 0 = 0 := rfl
theorem I_one : I 1 = 1 := rfl
theorem I_in {n j : Nat} (h : j < n ∧ n < 2147483648) : vp_in (I (j : Int)) n ∧ (I (j : Int)).toNatClampNeg = j := by
  have e : I (j : Int) = nI j := rfl
  rw [e]
  exact ⟨vp_in_nI h.1 (by omega), nI_clamp (by omega)⟩
/-! ===== locals ===== -/
def g_c2 (v : Value) : Bool := match v with
  | .long _ => true
  | .double _ => true
  | _ => false
theorem g_c2_iff (v : Value) : g_c2 v = true ↔ v.category = 2 := by cases v <;> simp [g_c2, Value.category]
theorem g_cat (B : g_Bs) (v : Value) : (g_cv B v).category = v.category := by cases v <;> rfl
def g_kl (L : List (Option Value)) (i : Nat) : List (Option Value) := match i with
  | 0 => L
  | j + 1 => match L[j]? with
    | some (some v) => if g_c2 v = true then L.set j none else L
    | _ => L
def g_s1 (L : List (Option Value)) (i : Nat) (v : Value) : List (Option Value) := (g_kl L i).set i (some v)
def g_s2 (L : List (Option Value)) (i : Nat) (v : Value) : List (Option Value) := ((g_kl L i).set i (some v)).set (i + 1) none
def g_LR (B : g_Bs) (ls : Array Slot) (nL : Nat) (L : List (Option Value)) : Prop := ls.size = nL ∧ lv_wf ls ∧ ∀ (k : Nat) (v : Value), L[k]? = some (some v) → ls[k]? = some (.val (g_cv B v))
def g_ps (B : g_Bs) (L : List (Option Value)) : List (Nat × Value) := (List.range L.length).filterMap (fun k => match L[k]? with
  | some (some v) => some (k, g_cv B v)
  | _ => none)
theorem g_ps_mem {B : g_Bs} {L : List (Option Value)} {k : Nat} {v : Value} (h : L[k]? = some (some v)) : (k, g_cv B v) ∈ g_ps B L := by
  refine List.mem_filterMap.mpr ⟨k, List.mem_range.mpr (List.getElem?_eq_some_iff.mp h).1, ?_⟩
  rw [h]
theorem g_ps_of {B : g_Bs} {L : List (Option Value)} {q : Nat × Value} (h : q ∈ g_ps B L) : ∃ v, L[q.1]? = some (some v) ∧ q.2 = g_cv B v := by
  obtain ⟨k, -, hk⟩ := List.mem_filterMap.mp h
  split at hk
  · next v hv => cases hk; exact ⟨v, hv, rfl⟩
  · cases hk
theorem g_LR.has {B : g_Bs} {ls : Array Slot} {nL : Nat} {L : List (Option Value)} (h : g_LR B ls nL L) : lv_has ls nL (g_ps B L) := by
  refine ⟨h.1, h.2.1, fun q hq => ?_⟩
  obtain ⟨v, h1, h2⟩ := g_ps_of hq
  rw [h2]
  exact h.2.2 _ _ h1
theorem g_kl_of {L : List (Option Value)} {i k : Nat} {v : Value} (h : (g_kl L i)[k]? = some (some v)) : L[k]? = some (some v) ∧ ¬ (k + 1 = i ∧ v.category = 2) := by
  cases i with
  | zero => exact ⟨h, fun q => by omega⟩
  | succ j =>
    unfold g_kl at h
    dsimp only at h
    split at h
    · next w hw =>
      split at h
      · next hc =>
        by_cases hjk : j = k
        · subst hjk
          rw [List.getElem?_set_self (List.getElem?_eq_some_iff.mp hw).1] at h
          cases h
        · rw [List.getElem?_set_ne hjk] at h
          exact ⟨h, fun q => hjk (by omega)⟩
      · next hc =>
        refine ⟨h, fun q => ?_⟩
        have : k = j := by omega
        subst this
        rw [h] at hw
        cases hw
        exact hc ((g_c2_iff v).mpr q.2)
    · next hn =>
      refine ⟨h, fun q => ?_⟩
      have : k = j := by omega
      subst this
      exact hn v h
theorem g_LR.s1 {B : g_Bs} {ls' : Array Slot} {nL i : Nat} {L : List (Option Value)} {v : Value} (h : lv_has ls' nL ((i, g_cv B v) :: (g_ps B L).filter (fun q => !(q.1 == i) && !(q.1 + 1 == i && q.2.category == 2)))) : g_LR B ls' nL (g_s1 L i v) := by
  refine ⟨h.1, h.2.1, fun k w hk => ?_⟩
  unfold g_s1 at hk
  by_cases hi : i = k
  · subst hi
    have hl := (List.getElem?_eq_some_iff.mp hk).1
    rw [List.length_set] at hl
    rw [List.getElem?_set_self hl] at hk
    cases hk
    exact h.2.2 (i, g_cv B v) List.mem_cons_self
  · rw [List.getElem?_set_ne hi] at hk
    obtain ⟨h1, h2⟩ := g_kl_of hk
    refine h.2.2 (k, g_cv B w) (List.mem_cons_of_mem _ (List.mem_filter.mpr ⟨g_ps_mem h1, ?_⟩))
    simp only [g_cat, Bool.and_eq_true, Bool.not_eq_true', beq_eq_false_iff_ne, ne_eq, Bool.and_eq_false_iff]
    refine ⟨fun e => hi e.symm, ?_⟩
    by_cases h3 : k + 1 = i
    · exact Or.inr (fun e => h2 ⟨h3, by simpa using e⟩)
    · exact Or.inl h3
theorem g_LR.s2 {B : g_Bs} {ls' : Array Slot} {nL i : Nat} {L : List (Option Value)} {v : Value} (h : lv_has ls' nL ((i, g_cv B v) :: (g_ps B L).filter (fun q => !(q.1 == i) && (!(q.1 == i + 1) && !(q.1 + 1 == i && q.2.category == 2))))) : g_LR B ls' nL (g_s2 L i v) := by
  refine ⟨h.1, h.2.1, fun k w hk => ?_⟩
  unfold g_s2 at hk
  by_cases h1 : i + 1 = k
  · subst h1
    have hl := (List.getElem?_eq_some_iff.mp hk).1
    rw [List.length_set] at hl
    rw [List.getElem?_set_self hl] at hk
    cases hk
  · rw [List.getElem?_set_ne h1] at hk
    by_cases hi : i = k
    · subst hi
      have hl := (List.getElem?_eq_some_iff.mp hk).1
      rw [List.length_set] at hl
      rw [List.getElem?_set_self hl] at hk
      cases hk
      exact h.2.2 (i, g_cv B v) List.mem_cons_self
    · rw [List.getElem?_set_ne hi] at hk
      obtain ⟨h2, h3⟩ := g_kl_of hk
      refine h.2.2 (k, g_cv B w) (List.mem_cons_of_mem _ (List.mem_filter.mpr ⟨g_ps_mem h2, ?_⟩))
      simp only [g_cat, Bool.and_eq_true, Bool.not_eq_true', beq_eq_false_iff_ne, ne_eq, Bool.and_eq_false_iff]
      refine ⟨fun e => hi e.symm, fun e => h1 e.symm, ?_⟩
      by_cases h4 : k + 1 = i
      · exact Or.inr (fun e => h3 ⟨h4, by simpa using e⟩)
      · exact Or.inl h4
def g_L0 (as : List Value) : List (Option Value) := match as with
  | [] => []
  | v :: r => if g_c2 v = true then some v :: none :: g_L0 r else some v :: g_L0 r
def g_pad (n : Nat) (L : List (Option Value)) : List (Option Value) := match n, L with
  | n, [] => List.replicate n none
  | 0, x :: r => x :: r
  | n + 1, x :: r => x :: g_pad n r
theorem g_L0_of (B : g_Bs) : ∀ (as : List Value) (i k : Nat) (v : Value), (g_L0 as)[k]? = some (some v) → (i + k, g_cv B v) ∈ lv_args i (as.map (g_cv B)) := by
  intro as
  induction as with
  | nil => intro i k v h; simp [g_L0] at h
  | cons w r ih =>
    intro i k v h
    unfold g_L0 at h
    have hcat : (g_cv B w).category = 2 ↔ g_c2 w = true := by rw [g_cat, g_c2_iff]
    by_cases hc : g_c2 w = true
    · rw [if_pos hc] at h
      match k, h with
      | 0, h => simp only [List.getElem?_cons_zero, Option.some.injEq] at h; subst h; exact List.mem_cons_self
      | 1, h => simp at h
      | k + 2, h =>
        simp only [List.getElem?_cons_succ] at h
        have := ih (i + 2) k v h
        rw [List.map_cons]
        unfold lv_args
        rw [if_pos (hcat.mpr hc)]
        refine List.mem_cons_of_mem _ ?_
        rw [show i + (k + 2) = i + 2 + k by omega]
        exact this
    · rw [if_neg hc] at h
      match k, h with
      | 0, h => simp only [List.getElem?_cons_zero, Option.some.injEq] at h; subst h; exact List.mem_cons_self
      | k + 1, h =>
        simp only [List.getElem?_cons_succ] at h
        have := ih (i + 1) k v h
        rw [List.map_cons]
        unfold lv_args
        rw [if_neg (fun q => hc (hcat.mp q))]
        refine List.mem_cons_of_mem _ ?_
        rw [show i + (k + 1) = i + 1 + k by omega]
        exact this
theorem g_pad_of : ∀ (n : Nat) (L : List (Option Value)) (k : Nat) (v : Value), (g_pad n L)[k]? = some (some v) → L[k]? = some (some v) := by
  intro n
  induction n with
  | zero =>
    intro L k v h
    cases L with
    | nil => simp [g_pad] at h
    | cons x r => exact h
  | succ n ih =>
    intro L k v h
    cases L with
    | nil =>
      unfold g_pad at h
      obtain ⟨hl, he⟩ := List.getElem?_eq_some_iff.mp h
      rw [List.getElem_replicate] at he
      cases he
    | cons x r =>
      unfold g_pad at h
      cases k with
      | zero => exact h
      | succ k => exact ih r k v h
/-! ===== the judgements: G a place in a method, Call a whole method ===== -/
/-- the words of locals that stand behind d frames: 36 a frame, and what the law's own wide methods need above the eleventh -/
def g_lo (d : Nat) : Nat := if 11 ≤ d then 458 + 36 * (d - 11) else 36 * d
theorem g_lo_ge (d : Nat) : 36 * d ≤ g_lo d := by unfold g_lo; split <;> omega
theorem g_lo_st {d m : Nat} (hd : 1 ≤ d) (hm : m ≤ 17 ∨ (d = 11 ∧ m ≤ 79)) : 8 + (m + 11) + g_lo (d - 1) ≤ g_lo d := by
  unfold g_lo
  split <;> split <;> omega
def g_rm (d mc ms : Nat) : Jvm.Room := { frames := d, cells := mc, slots := ms, locals := g_lo d }
abbrev g_Po : Type := Option Value → g_H → Prop
/-- the words that a callee may take over -/
def lw_gd : List Cond := lw_tbl.filter goodWord
theorem g_wm {n : Nat} {w : Cond} (h : g_w n = some w) (hg : goodWord w = true := by rfl) : w ∈ lw_gd := List.mem_filter.mpr ⟨g_w_mem h, hg⟩
/-- classes and array classes of the launch -/
def g_KK (D : va_G) (cA : Nat → ClassId) (U : State) : Prop := va_K D g_cls (g_tys cA) U ∧ va_AO "VectorPens$Stroke" U ∧ va_AO "VectorPens$Drawing" U ∧ ArrOfT U (cA 4) .int
theorem g_KK.moved {D : va_G} {cA : Nat → ClassId} {u U : State} (hvm : u.vm.Alike U.vm) (h : g_KK D cA u) : g_KK D cA U := ⟨va_K.moved hvm h.1, va_AO.moved hvm h.2.1, va_AO.moved hvm h.2.2.1, arrOfT_moved hvm h.2.2.2⟩
def g_Cx (k : Nat) (p : Program) (s : State) (m : MethodId) (args : Array Value) (meth : Method) (c : Code) (B : g_Bs) (D : va_G) (cA : Nat → ClassId) : Prop :=
  p.tables.exec = Jvm.exec ∧ c.code = (g_m k).2.1 ∧ c.maxLocals = (g_m k).2.2.1 ∧ meth.sig.returnType = (g_m k).2.2.2.1 ∧ s.vm.findClass (g_m k).1.cls = some m.cls ∧ (∀ w ∈ lw_gd, w.before args s = true) ∧ meth.locks = false ∧ ((g_m k).1.name = "<init>" → meth.name = "<init>") ∧ g_KK D cA s ∧ B.1 ≤ s.heap.size
def g_Qc (B : g_Bs) (D : va_G) (cA : Nat → ClassId) (Q : g_Po) : Array Value → State → Outcome → State → Prop := fun _ st oc t => (∃ (r : Option Value) (h : g_H), Q r h ∧ oc = .returned (r.map (g_cv B)) ∧ g_RH B D cA h t.heap) ∧ va_F (g_A B) st t
def g_Pc (B : g_Bs) (D : va_G) (cA : Nat → ClassId) (as : List Value) (h : g_H) : Array Value → State → Prop := fun av U => av = (as.map (g_cv B)).toArray ∧ g_RH B D cA h U.heap ∧ g_KK D cA U
def g_ws (k : Nat) : List Cond := Cond.code (g_m k).1 (g_m k).2.1 (g_m k).2.2.1 (g_m k).2.2.2.1 :: lw_gd
def G (k d mc ms cs ss pc : Nat) (L : List (Option Value)) (st : List Value) (h : g_H) (Q : g_Po) : Prop :=
  ∀ (p : Program) (l : Launch) (e : Env) (s : State) (m : MethodId) (args : Array Value) (below : List Frame) (meth : Method) (c : Code) (B : g_Bs) (D : va_G) (cA : Nat → ClassId) (H : Heap) (locs : List Loc) (ls : Array Slot),
    g_Cx k p s m args meth c B D cA → g_RH B D cA h H → va_S (g_A B) s.heap H locs → g_LR B ls (g_m k).2.2.1 L →
    W p l e (g_rm d mc ms) s m args below meth c H locs cs ss (MQ below (g_Qc B D cA Q) args s mc ms (g_A B)) (F0 m pc ls (st.map (g_cv B)))
def Call (k d mc ms : Nat) (as : List Value) (h : g_H) (Q : g_Po) : Prop :=
  ∀ (l : Launch) (B : g_Bs) (D : va_G) (cA : Nat → ClassId), Met l (g_m k).1 (g_ws k) (g_rm d mc ms) (g_Pc B D cA as h) (g_Qc B D cA Q) mc ms (g_A B)
theorem g_Pc_blind {B : g_Bs} {D : va_G} {cA : Nat → ClassId} {as : List Value} {h : g_H} : FrameBlind (g_Pc B D cA as h) := fun a U g mk q => ⟨q.1, q.2.1, g_KK.moved (u := U) (U := U.calling g mk a) (Vm.Alike.refl U.vm) q.2.2⟩
