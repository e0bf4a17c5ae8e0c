/-! ===== what one instruction does: a condition for going on ===== -/
def g_ldI (o : Option (Option Value)) (F : Int32 → Prop) : Prop := match o with
  | some (some (.int x)) => F x
  | _ => False
def g_ldL (o : Option (Option Value)) (F : Int64 → Prop) : Prop := match o with
  | some (some (.long x)) => F x
  | _ => False
def g_ldA (o : Option (Option Value)) (F : Value → Prop) : Prop := match o with
  | some (some (.ref a)) => F (.ref a)
  | some (some .null) => F .null
  | some (some (.retAddr x)) => F (.retAddr x)
  | _ => False
def g_p1 (st : List Value) (F : Int32 → List Value → Prop) : Prop := match st with
  | .int x :: r => F x r
  | _ => False
def g_p2 (st : List Value) (F : Int32 → Int32 → List Value → Prop) : Prop := match st with
  | .int y :: .int x :: r => F x y r
  | _ => False
def g_l1 (st : List Value) (F : Int64 → List Value → Prop) : Prop := match st with
  | .long x :: r => F x r
  | _ => False
def g_l2 (st : List Value) (F : Int64 → Int64 → List Value → Prop) : Prop := match st with
  | .long y :: .long x :: r => F x y r
  | _ => False
def g_li (st : List Value) (F : Int64 → Int32 → List Value → Prop) : Prop := match st with
  | .int y :: .long x :: r => F x y r
  | _ => False
def g_pA (st : List Value) (F : Value → List Value → Prop) : Prop := match st with
  | .ref a :: r => F (.ref a) r
  | .null :: r => F .null r
  | _ => False
def g_pR (st : List Value) (F : Nat → List Value → Prop) : Prop := match st with
  | .ref a :: r => F a r
  | _ => False
def g_iR (st : List Value) (F : Nat → Int32 → List Value → Prop) : Prop := match st with
  | .int i :: .ref a :: r => F a i r
  | _ => False
def g_iiR (st : List Value) (F : Nat → Int32 → Int32 → List Value → Prop) : Prop := match st with
  | .int x :: .int i :: .ref a :: r => F a i x r
  | _ => False
def g_riR (st : List Value) (F : Nat → Int32 → Nat → List Value → Prop) : Prop := match st with
  | .ref v :: .int i :: .ref a :: r => F a i v r
  | _ => False
def g_p1v (st : List Value) (F : Value → List Value → Prop) : Prop := match st with
  | v :: r => v.category = 1 ∧ F v r
  | _ => False
def g_p2v (st : List Value) (F : Value → Value → List Value → Prop) : Prop := match st with
  | v :: w :: r => (v.category = 1 ∧ w.category = 1) ∧ F v w r
  | _ => False
def g_ia (t : Nat) (c : Option g_C) (F : Nat → (Nat → Int32) → Prop) : Prop := match c with
  | some (.inl (t', n, f)) => t' = t ∧ F n f
  | _ => False
def g_ra (c : Option g_C) (F : Nat → Nat → (Nat → Option Nat) → Prop) : Prop := match c with
  | some (.inr (.inl (t, n, f))) => F t n f
  | _ => False
def g_ob (ci : Nat) (c : Option g_C) (F : List Value → Prop) : Prop := match c with
  | some (.inr (.inr (ci', fs))) => ci' = ci ∧ F fs
  | _ => False
def g_al (c : Option g_C) (F : Nat → Prop) : Prop := match c with
  | some (.inl (t, n, _)) => t < 2 ∧ F n
  | some (.inr (.inl (t, n, _))) => (t = 2 ∨ t = 3) ∧ F n
  | _ => False
def g_gt (o : Option Value) (F : Value → Prop) : Prop := match o with
  | some v => F v
  | none => False
/-- a value to be put into a field of a kind: 0 an int, 1 a boolean, 2 a reference; 10 more: final -/
def g_pv (ty : Int) (st : List Value) (F : Value → Nat → List Value → Prop) : Prop := match st with
  | .int x :: .ref a :: r => (ty = 0 ∨ (ty = 1 ∧ (x = I 0 ∨ x = I 1))) ∧ F (.int x) a r
  | .ref b :: .ref a :: r => (ty = 2 ∨ ty = 12) ∧ F (.ref b) a r
  | _ => False
/-- the arguments of a call: n of them, behind them the rest -/
def g_rc (st : List Value) (F : Nat → List Value → Prop) : Prop := match st with
  | .ref b :: r => F b r
  | _ => False
abbrev g_K : Type := Nat → Nat → List (Option Value) → List Value → g_H → Prop
/-! ===== static facts: classes, words ===== -/
theorem g_goodIn {ws : List Cond} (h : ∀ w ∈ ws, w ∈ lw_gd) : GoodIn lw_gd ws := fun w hw => ⟨h w hw, good_of_word (List.mem_filter.mp (h w hw)).2⟩
def g_clok (ci : Nat) : Bool := match g_cls[ci]? with
  | some (C, T, N) => (List.range N).all (fun k => decide (g_w (g_lay ci k) = some (u_lay C T k))) && decide (g_w (g_ini ci) = some (Cond.initialized C)) && decide (g_w (g_ins ci) = some (Cond.instantiable C N)) && (List.range N).all (fun k => decide (defaultValue (g_fty ci k) = vp_V (g_dflt ci) k)) && decide ((g_dflt ci).length = N) && (List.range N).all (fun k => decide (parseFieldDescriptor (T k).2.2.1 = some (g_fty ci k))) && (List.range N).all (fun a => (List.range N).all (fun b => decide (a ≠ b → (T a).2.1 ≠ (T b).2.1)))
  | none => true
theorem g_clok_all : (List.range 7).all g_clok = true := by decide +kernel
theorem g_cf {ci N : Nat} {C : String} {T : u_T} (h : g_cls[ci]? = some (C, T, N)) : (∀ w ∈ u_ws C T N, w ∈ lw_gd) ∧ Cond.initialized C ∈ lw_gd ∧ Cond.instantiable C N ∈ lw_gd ∧ (∀ j, j < N → defaultValue (g_fty ci j) = vp_V (g_dflt ci) j) ∧ (g_dflt ci).length = N ∧ (∀ k, k < N → parseFieldDescriptor (T k).2.2.1 = some (g_fty ci k)) ∧ (∀ a, a < N → ∀ b, b < N → a ≠ b → (T a).2.1 ≠ (T b).2.1) := by
  have hl : ci < 7 := (List.getElem?_eq_some_iff.mp h).1
  have hk := List.all_eq_true.mp g_clok_all ci (List.mem_range.mpr hl)
  unfold g_clok at hk
  rw [h] at hk
  simp only [Bool.and_eq_true, List.all_eq_true, List.mem_range, decide_eq_true_eq] at hk
  obtain ⟨⟨⟨⟨⟨⟨h1, h2⟩, h3⟩, h4⟩, h5⟩, h6⟩, h7⟩ := hk
  refine ⟨fun w hw => ?_, g_wm h2, g_wm h3, h4, h5, h6, h7⟩
  obtain ⟨k, hk, rfl⟩ := List.mem_map.mp hw
  exact g_wm (h1 k (List.mem_range.mp hk)) (by unfold u_lay; split <;> rfl)
theorem g_lays {ci N : Nat} {C : String} {T : u_T} (h : g_cls[ci]? = some (C, T, N)) : ∀ w ∈ u_ws C T N, w ∈ lw_gd := (g_cf h).1
def g_fl (own : String) (i ci k a3 : Nat) : Bool := match g_cls[ci]? with
  | some (_, T, N) => decide (k < N) && decide (g_w a3 = some (Cond.fieldLink own i (T k).1 (T k).2.1 (T k).2.2.1))
  | none => false
theorem g_fl_spec {own : String} {i ci k a3 : Nat} (h : g_fl own i ci k a3 = true) : ∃ (C : String) (T : u_T) (N : Nat), g_cls[ci]? = some (C, T, N) ∧ k < N ∧ g_w a3 = some (Cond.fieldLink own i (T k).1 (T k).2.1 (T k).2.2.1) := by
  unfold g_fl at h
  split at h
  · next C T N hc =>
    simp only [Bool.and_eq_true, decide_eq_true_eq] at h
    exact ⟨C, T, N, hc, h.1, h.2⟩
  · cases h
def g_isR (ty : FieldType) : Bool := match ty with
  | .object _ => true
  | .array _ => true
  | _ => false
def g_ft (y : MethodName) (v : Int) (ci k : Nat) : Bool := match g_cls[ci]? with
  | some (_, T, _) => (decide (v = 0) && decide (g_fty ci k = .int) && !(T k).2.2.2) || (decide (v = 1) && decide (g_fty ci k = .boolean) && !(T k).2.2.2) || (decide (v = 2) && g_isR (g_fty ci k) && !(T k).2.2.2) || (decide (v = 12) && g_isR (g_fty ci k) && (T k).2.2.2 && decide (y.name = "<init>") && decide ((T k).1 = y.cls))
  | none => false
theorem g_rf_cv (B : g_Bs) (r : Option Nat) : va_rf (r.map (fun a => B.1 + a)) = g_cv B (va_rf r) := by cases r <;> rfl
section GROWS
variable {p : Program} {l : Launch} {e : Env} {R : Jvm.Room} {s : State} {m : MethodId} {args : Array Value} {below : List Frame} {meth : Method} {c : Code} {H : Heap} {locs : List Loc} {cells slots : Nat} {Qf : State → Prop}
variable {cc : ByteArray} {pc : Nat} {ls : Array Slot} {rest : List Value} {B : g_Bs} {D : va_G} {cA : Nat → ClassId} {h : g_H} {a : Nat} {own : String}
theorem g_put (hx : p.tables.exec = Jvm.exec) (hb : c.code = cc) (hts : ∀ w ∈ lw_gd, w.before args s = true) (hown : s.vm.findClass own = some m.cls) (hKk : va_K D g_cls (g_tys cA) s) (hH : g_RH B D cA h H) (hS : va_S (g_A B) s.heap H locs)
    {ci k i N : Nat} {C : String} {T : u_T} (hcl : g_cls[ci]? = some (C, T, N)) (hk : k < N) (hlink : (Cond.fieldLink own i (T k).1 (T k).2.1 (T k).2.2.1).before args s = true) {fs : List Value} (hc9 : h[a]? = some (ob ci fs)) (hlen : k < fs.length) {w : Value}
    (hn : narrow (g_fty ci k) (g_cv B w) = g_cv B w) (hfit : fits (g_fty ci k) (g_cv B w) = true) (hfin : (T k).2.2.2 = false ∨ ((T k).2.2.2 = true ∧ meth.name = "<init>" ∧ (T k).1 = own)) (hdg : decode cc pc = .ok (.putfield i, 3))
    (kk : ∀ (H1 : Heap) (locs1 : List Loc), g_RH B D cA (h.set a (ob ci (fs.set k w))) H1 → va_S (g_A B) s.heap H1 locs1 → W p l e R s m args below meth c H1 locs1 cells slots Qf (F0 m (pc + 3) ls rest)) : W p l e R s m args below meth c H locs cells slots Qf (F0 m pc ls (g_cv B w :: .ref (B.1 + a) :: rest)) := by
  obtain ⟨hin, -, -, -, -, hty, hnm⟩ := g_cf hcl
  have hap := va_apart (own := own) hts hin (g_fty ci) hty hnm hKk hcl
  obtain ⟨r, h1, cell, q1, q2, q3, q4⟩ := hH.2.1 a _ (g_wd_at hc9)
  have hr : r = (C, T, N) := Option.some.inj (h1.symm.trans hcl)
  subst hr
  obtain ⟨hSl, hfc, kC, hkC, hkind⟩ := hKk.1 ci _ hcl
  obtain ⟨cf, kf, fi, f, hi, hsl⟩ := hSl k hk
  have hlay := hts _ (hin _ (u_in_lay hk))
  have hst := (u_facts hfc hkC (u_lays hts hin hk) hi).1
  have hl9 : k < (fs.map (g_cv B)).length := by rw [List.length_map]; exact hlen
  have hset : (fs.map (g_cv B)).set k (g_cv B w) = (fs.set k w).map (g_cv B) := by rw [List.map_set]
  have fin : ∀ H1 : Heap, H1[B.1 + a]? = some (cell.setSlot (D.2 ci k) (g_cv B w)) → H1.size = H.size → (∀ q : Nat, q ≠ B.1 + a → H1[q]? = H[q]?) → g_RH B D cA (h.set a (ob ci (fs.set k w))) H1 := by
    intro H1 e1 e2 e3
    refine hH.put hc9 e2 e3 ?_
    show va_at D g_cls (B.1 + a, .inr (ci, (fs.set k w).map (g_cv B))) H1
    rw [← hset]
    exact ⟨_, hcl, t_OB.to (V := updV (vp_V (fs.map (g_cv B))) k (g_cv B w)) ⟨_, e1, q2, q3, t_set q4 hap hk (g_cv B w)⟩ (fun j _ => vp_updV_set hl9 (g_cv B w) j)⟩
  rcases hfin with hfin | ⟨hfin, hin2, hdecl⟩
  · unfold u_lay at hlay
    rw [if_neg (by rw [hfin]; decide)] at hlay
    have h6 := u_store hfc hkC hkind hlay hi (hty k hk) hn hfit
    refine W.putK hx hb (f := f) ⟨hown, hlink, ⟨_, _, _, hi⟩, hst⟩ (by rw [q2]; exact h6) q1 q3 (by rw [hsl]; exact k2_hasslot (q4 k hk)) rfl rfl hdg fun H' e1 e2 e3 => ?_
    rw [hsl] at e1 ⊢
    exact kk H' _ (fin H' e1 e2 e3) (hS.put e2 e3 (Nat.le_add_right _ _))
  · unfold u_lay at hlay
    rw [if_pos hfin] at hlay
    have hcf : m.cls = cf := by
      obtain ⟨_, _, c', _, _, _, -, -, hf', -, -, -, hown2, -⟩ := Cond.laysFinal_spec hlay
      have e1 : c' = cf := by have := hi.symm.trans hf'; simp at this; exact this.1.symm
      rw [hdecl] at hown2
      rw [← e1]; exact Option.some.inj (hown.symm.trans hown2)
    have h6 := u_fits hfc hkC hkind (Or.inr hlay) hi (hty k hk) hn hfit
    refine W.putFinK hx hb hown hlink hi hst hcf hin2 (by rw [q2]; exact h6) q1 q3 (by rw [hsl]; exact k2_hasslot (q4 k hk)) rfl rfl hdg fun H' e1 e2 e3 => ?_
    rw [hsl] at e1 ⊢
    exact kk H' _ (fin H' e1 e2 e3) (hS.put e2 e3 (Nat.le_add_right _ _))
theorem g_putI (hx : p.tables.exec = Jvm.exec) (hb : c.code = cc) (hts : ∀ w ∈ lw_gd, w.before args s = true) {y : MethodName} (hown : s.vm.findClass y.cls = some m.cls) (hKk : va_K D g_cls (g_tys cA) s) (hH : g_RH B D cA h H) (hS : va_S (g_A B) s.heap H locs)
    {ci k i a3 : Nat} {v : Int} (hck : g_fl y.cls i ci k a3 = true ∧ g_ft y v ci k = true) {fs : List Value} (hc9 : h[a]? = some (ob ci fs)) (hlen : k < fs.length) {x : Int32} (hv : v = 0 ∨ (v = 1 ∧ (x = I 0 ∨ x = I 1))) (hdg : decode cc pc = .ok (.putfield i, 3))
    (kk : ∀ (H1 : Heap) (locs1 : List Loc), g_RH B D cA (h.set a (ob ci (fs.set k (.int x)))) H1 → va_S (g_A B) s.heap H1 locs1 → W p l e R s m args below meth c H1 locs1 cells slots Qf (F0 m (pc + 3) ls rest)) : W p l e R s m args below meth c H locs cells slots Qf (F0 m pc ls (.int x :: .ref (B.1 + a) :: rest)) := by
  obtain ⟨C, T, N, hcl, hlt, hw9⟩ := g_fl_spec hck.1
  have hft := hck.2
  unfold g_ft at hft
  rw [hcl] at hft
  simp only [Bool.or_eq_true, Bool.and_eq_true, decide_eq_true_eq, Bool.not_eq_true'] at hft
  have hfin : (T k).2.2.2 = false := by
    rcases hft with ((h1 | h1) | h1) | h1
    · exact h1.2
    · exact h1.2
    · exact h1.2
    · rcases hv with h2 | h2 <;> omega
  refine g_put (w := .int x) hx hb hts hown hKk hH hS hcl hlt (hts _ (g_wm hw9)) hc9 hlen ?_ ?_ (Or.inl hfin) hdg kk
  · rcases hv with rfl | ⟨rfl, hx1⟩
    · have : g_fty ci k = .int := by rcases hft with ((h1 | h1) | h1) | h1 <;> first | exact h1.1.2 | (exfalso; omega)
      rw [this]; rfl
    · have : g_fty ci k = .boolean := by rcases hft with ((h1 | h1) | h1) | h1 <;> first | exact h1.1.2 | (exfalso; omega)
      rw [this]
      rcases hx1 with rfl | rfl <;> rfl
  · rcases hv with rfl | ⟨rfl, hx1⟩
    · have : g_fty ci k = .int := by rcases hft with ((h1 | h1) | h1) | h1 <;> first | exact h1.1.2 | (exfalso; omega)
      rw [this]; rfl
    · have : g_fty ci k = .boolean := by rcases hft with ((h1 | h1) | h1) | h1 <;> first | exact h1.1.2 | (exfalso; omega)
      rw [this]
      rcases hx1 with rfl | rfl <;> rfl
theorem g_putR (hx : p.tables.exec = Jvm.exec) (hb : c.code = cc) (hts : ∀ w ∈ lw_gd, w.before args s = true) {y : MethodName} (hown : s.vm.findClass y.cls = some m.cls) (hKk : va_K D g_cls (g_tys cA) s) (hH : g_RH B D cA h H) (hS : va_S (g_A B) s.heap H locs)
    {ci k i a3 : Nat} {v : Int} (hck : g_fl y.cls i ci k a3 = true ∧ g_ft y v ci k = true) (hnm : y.name = "<init>" → meth.name = "<init>") {fs : List Value} (hc9 : h[a]? = some (ob ci fs)) (hlen : k < fs.length) {b : Nat} (hv : v = 2 ∨ v = 12) (hdg : decode cc pc = .ok (.putfield i, 3))
    (kk : ∀ (H1 : Heap) (locs1 : List Loc), g_RH B D cA (h.set a (ob ci (fs.set k (.ref b)))) H1 → va_S (g_A B) s.heap H1 locs1 → W p l e R s m args below meth c H1 locs1 cells slots Qf (F0 m (pc + 3) ls rest)) : W p l e R s m args below meth c H locs cells slots Qf (F0 m pc ls (.ref (B.1 + b) :: .ref (B.1 + a) :: rest)) := by
  obtain ⟨C, T, N, hcl, hlt, hw9⟩ := g_fl_spec hck.1
  have hft := hck.2
  unfold g_ft at hft
  rw [hcl] at hft
  simp only [Bool.or_eq_true, Bool.and_eq_true, decide_eq_true_eq, Bool.not_eq_true'] at hft
  have hty : g_isR (g_fty ci k) = true := by
    rcases hft with ((h1 | h1) | h1) | h1
    · exfalso; omega
    · exfalso; omega
    · exact h1.1.2
    · exact h1.1.1.1.2
  have hfin : (T k).2.2.2 = false ∨ ((T k).2.2.2 = true ∧ meth.name = "<init>" ∧ (T k).1 = y.cls) := by
    rcases hft with ((h1 | h1) | h1) | h1
    · exact Or.inl h1.2
    · exact Or.inl h1.2
    · exact Or.inl h1.2
    · exact Or.inr ⟨h1.1.1.2, hnm h1.1.2, h1.2⟩
  refine g_put (w := .ref b) hx hb hts hown hKk hH hS hcl hlt (hts _ (g_wm hw9)) hc9 hlen ?_ ?_ hfin hdg kk
  · cases hf : g_fty ci k <;> first | rfl | (rw [hf] at hty; cases hty)
  · cases hf : g_fty ci k <;> first | rfl | (rw [hf] at hty; cases hty)
theorem g_upd_conc (B : g_Bs) (n : Nat) (f : Nat → Int32) (q : Nat) (x : Int32) (cI : ClassId) : arrV cI n (updV (fun j => Value.int (f j)) q (.int x)) = vp_cell cI (n, .inl (upd f q x)) := by
  rw [vp_cell_i]
  congr 1
  funext j
  by_cases hq : j = q
  · subst hq; simp [updV, upd]
  · simp [updV, upd, hq]
theorem g_iast (hx : p.tables.exec = Jvm.exec) (hb : c.code = cc) (hKk : va_K D g_cls (g_tys cA) s) (hH : g_RH B D cA h H) (hS : va_S (g_A B) s.heap H locs) {n : Nat} {f : Nat → Int32} (hc9 : h[a]? = some (iA 0 n f)) {i x : Int32} (hin : vp_in i n) (hdg : decode cc pc = .ok (.iastore, 1))
    (kk : ∀ (H1 : Heap) (locs1 : List Loc), g_RH B D cA (h.set a (iA 0 n (upd f i.toNatClampNeg x))) H1 → va_S (g_A B) s.heap H1 locs1 → W p l e R s m args below meth c H1 locs1 cells slots Qf (F0 m (pc + 1) ls rest)) : W p l e R s m args below meth c H locs cells slots Qf (F0 m pc ls (.int x :: .int i :: .ref (B.1 + a) :: rest)) := by
  have ha := hH.2.1 a _ (g_wd_at hc9)
  refine W.iast hx hb ha ((hKk.2 0 _ rfl).1 n (fun j => .int (f j))) (fun q => by cases q) (by show ¬ (i < 0 ∨ (arrV _ _ _).slots.size ≤ _); rw [arrV_size]; exact hin) rfl rfl hdg fun H1 e1 z oq => ?_
  refine kk H1 _ (hH.put hc9 z oq ?_) (hS.put z oq (Nat.le_add_right _ _))
  show H1[B.1 + a]? = some (vp_cell (cA 0) (n, .inl (upd f i.toNatClampNeg x)))
  rw [e1, ← g_upd_conc B]
  show some ((vp_cell (cA 0) (n, .inl f)).setSlot _ _) = _
  rw [vp_cell_i, arrV_store]
theorem g_cast (hx : p.tables.exec = Jvm.exec) (hb : c.code = cc) (hKk : va_K D g_cls (g_tys cA) s) (hH : g_RH B D cA h H) (hS : va_S (g_A B) s.heap H locs) {n : Nat} {f : Nat → Int32} (hc9 : h[a]? = some (iA 1 n f)) {i x : Int32} (hin : vp_in i n) (hdg : decode cc pc = .ok (.castore, 1))
    (kk : ∀ (H1 : Heap) (locs1 : List Loc), g_RH B D cA (h.set a (iA 1 n (upd f i.toNatClampNeg (vp_nar .char x)))) H1 → va_S (g_A B) s.heap H1 locs1 → W p l e R s m args below meth c H1 locs1 cells slots Qf (F0 m (pc + 1) ls rest)) : W p l e R s m args below meth c H locs cells slots Qf (F0 m pc ls (.int x :: .int i :: .ref (B.1 + a) :: rest)) := by
  have ha := hH.2.1 a _ (g_wd_at hc9)
  refine W.cast hx hb ha ((hKk.2 1 _ rfl).1 n (fun j => .int (f j))) (fun q => by cases q) (by show ¬ (i < 0 ∨ (arrV _ _ _).slots.size ≤ _); rw [arrV_size]; exact hin) rfl rfl hdg fun H1 e1 z oq => ?_
  refine kk H1 _ (hH.put hc9 z oq ?_) (hS.put z oq (Nat.le_add_right _ _))
  show H1[B.1 + a]? = some (vp_cell (cA 1) (n, .inl (upd f i.toNatClampNeg (vp_nar .char x))))
  rw [e1, ← g_upd_conc B]
  show some ((vp_cell (cA 1) (n, .inl f)).setSlot _ _) = _
  rw [vp_cell_i, arrV_store]
  rfl
def g_el (t b : Nat) (h : g_H) : Prop := match h[b]? with
  | some (.inr (.inr (ci, _))) => (t = 2 ∧ ci = 2) ∨ (t = 3 ∧ ci = 0)
  | _ => False
theorem g_aast0 (hx : p.tables.exec = Jvm.exec) (hb : c.code = cc) (hKk : va_K D g_cls (g_tys cA) s) (hH : g_RH B D cA h H) (hS : va_S (g_A B) s.heap H locs) {t n b ci : Nat} {f : Nat → Option Nat} {fs : List Value} (hc9 : h[a]? = some (rA t n f)) {i : Int32} (hin : vp_in i n) (hbk : h[b]? = some (ob ci fs)) {r : vw_C} (hc : g_cls[ci]? = some r) (ht : (g_tys cA)[t]? = some (cA t, .object r.1)) (hdg : decode cc pc = .ok (.aastore, 1))
    (kk : ∀ (H1 : Heap) (locs1 : List Loc), g_RH B D cA (h.set a (rA t n (va_up f i.toNatClampNeg (some b)))) H1 → va_S (g_A B) s.heap H1 locs1 → W p l e R s m args below meth c H1 locs1 cells slots Qf (F0 m (pc + 1) ls rest)) : W p l e R s m args below meth c H locs cells slots Qf (F0 m pc ls (.ref (B.1 + b) :: .int i :: .ref (B.1 + a) :: rest)) := by
  have ha := hH.2.1 a _ (g_wd_at hc9)
  have hlt : i.toNatClampNeg < n := Nat.not_le.mp fun q => hin (Or.inr q)
  have h0 : ¬ i < 0 := fun q => hin (Or.inl q)
  obtain ⟨r', hr', cellV, g1, g2, g3, -⟩ := hH.2.1 b _ (g_wd_at hbk)
  have hcls := (hKk.1 ci r hc).2
  obtain ⟨kA, comp, k1, k2, k3, -⟩ := (hKk.2 t _ ht).2
  have hcomp : comp = D.1 ci := Option.some.inj (k3.symm.trans hcls.1)
  subst hcomp
  obtain ⟨kC, hkC, -⟩ := hcls.2
  refine W.aast hx hb ha (fun q h => by cases h) (fun h => by cases h) k1 k2 rfl hkC ⟨h0, by show _ < (arrV _ _ _).slots.size; rw [arrV_size]; exact hlt⟩ g1 (fun q h => by rw [g3] at h; cases h) (by rw [g2]; exact hkC) (by rw [g2]; exact va_assign hcls) rfl rfl hdg fun H1 e1 z oq => ?_
  refine kk H1 _ (hH.put hc9 z oq ?_) (hS.put z oq (Nat.le_add_right _ _))
  show H1[B.1 + a]? = some (vp_cell (cA t) (n, .inr (.inr (.inr (.inr (fun j => (va_up f i.toNatClampNeg (some b) j).map (fun a => B.1 + a)))))))
  rw [e1]
  show some ((vp_cell (cA t) (n, .inr (.inr (.inr (.inr (fun i => (f i).map (fun a => B.1 + a))))))).setSlot _ (Value.ref (B.1 + b))) = _
  rw [vp_cell_q, vp_cell_q, arrV_store]
  congr 2
  funext q
  by_cases hq : q = i.toNatClampNeg
  · subst hq
    simp [updV, va_up, va_rf]
  · simp [updV, va_up, hq]
theorem g_aast (hx : p.tables.exec = Jvm.exec) (hb : c.code = cc) (hKk : va_K D g_cls (g_tys cA) s) (hH : g_RH B D cA h H) (hS : va_S (g_A B) s.heap H locs) {t n b : Nat} {f : Nat → Option Nat} (hc9 : h[a]? = some (rA t n f)) {i : Int32} (hin : vp_in i n) (hel : g_el t b h) (hdg : decode cc pc = .ok (.aastore, 1))
    (kk : ∀ (H1 : Heap) (locs1 : List Loc), g_RH B D cA (h.set a (rA t n (va_up f i.toNatClampNeg (some b)))) H1 → va_S (g_A B) s.heap H1 locs1 → W p l e R s m args below meth c H1 locs1 cells slots Qf (F0 m (pc + 1) ls rest)) : W p l e R s m args below meth c H locs cells slots Qf (F0 m pc ls (.ref (B.1 + b) :: .int i :: .ref (B.1 + a) :: rest)) := by
  unfold g_el at hel
  split at hel
  · next ci fs hbk =>
    rcases hel with ⟨rfl, rfl⟩ | ⟨rfl, rfl⟩
    · exact g_aast0 hx hb hKk hH hS hc9 hin hbk (r := ("VectorPens$Stroke", F_Stroke, 3)) rfl rfl hdg kk
    · exact g_aast0 hx hb hKk hH hS hc9 hin hbk (r := ("VectorPens$Drawing", F_Drawing, 3)) rfl rfl hdg kk
  · exact hel.elim
/-! ===== making ===== -/
def g_nw (own : String) (i ci N a3 : Nat) : Bool := match g_cls[ci]? with
  | some (C, _, n) => decide (N = n) && decide (g_w a3 = some (Cond.classLink own i C))
  | none => false
theorem g_Sgrow {H1 : Heap} (hS : va_S (g_A B) s.heap H locs) (hz : H1.size = H.size + 1) (oq : ∀ q : Nat, q < H.size → H1[q]? = H[q]?) : va_S (g_A B) s.heap H1 locs :=
  ⟨Nat.le_trans hS.1 (by omega), fun x h1 h2 => (oq x (Nat.lt_of_lt_of_le h1 hS.1)).trans (hS.2.1 x h1 h2), hS.2.2⟩
theorem g_defl (B : g_Bs) (ci : Nat) : (g_dflt ci).map (g_cv B) = g_dflt ci := by
  unfold g_dflt
  split <;> rfl
theorem g_new (hx : p.tables.exec = Jvm.exec) (hb : c.code = cc) (hts : ∀ w ∈ lw_gd, w.before args s = true) (hown : s.vm.findClass own = some m.cls) (hKk : va_K D g_cls (g_tys cA) s) (hH : g_RH B D cA h H) (hS : va_S (g_A B) s.heap H locs) (_ : B.1 ≤ s.heap.size)
    {ci i N a3 : Nat} (hck : g_nw own i ci N a3 = true) (hcells : cells + 1 ≤ R.cells) (hslots : slots + N ≤ R.slots) (hdg : decode cc pc = .ok (.new i, 3))
    (kk : ∀ H1 : Heap, g_RH B D cA (h ++ [ob ci (g_dflt ci)]) H1 → va_S (g_A B) s.heap H1 locs → W p l e R s m args below meth c H1 locs (cells + 1) (slots + N) Qf (F0 m (pc + 3) ls (.ref (B.1 + h.length) :: rest))) : W p l e R s m args below meth c H locs cells slots Qf (F0 m pc ls rest) := by
  unfold g_nw at hck
  split at hck
  · next C T n hcl =>
    simp only [Bool.and_eq_true, decide_eq_true_eq] at hck
    obtain ⟨rfl, hw9⟩ := hck
    obtain ⟨hin, hini, hins, hdf, hdl, hty, hnm⟩ := g_cf hcl
    have hKn := hKk.1 ci _ hcl
    refine W.newcK hx hb hown (hts _ (g_wm hw9)) (hts _ hins) (hts _ hini) rfl hdg hcells hslots hKn.2.1 hH.1 fun H1 kC hkC e1 z1 o1 => ?_
    rw [← hH.1] at e1 z1 o1
    refine kk H1 (hH.push z1 o1 ?_) (g_Sgrow hS z1 o1)
    rw [← hH.1]
    show va_at D g_cls (H.size, .inr (ci, (g_dflt ci).map (g_cv B))) H1
    rw [g_defl]
    exact ⟨_, hcl, (u_born (g_fty ci) hts hin hKn hkC e1 hty).to hdf⟩
  · cases hck
def g_na (t : ArrayType) (tg N a3 : Nat) : Bool := match t with
  | .int => decide (tg = 0) && decide (N ≤ 100000) && decide (g_w a3 = some (Cond.arrayClass .int))
  | .char => decide (tg = 1) && decide (N ≤ 100000) && decide (g_w a3 = some (Cond.arrayClass .char))
  | _ => false
theorem g_n32 {N : Nat} (h : N ≤ 100000) : ¬ Int32.ofNat N < 0 ∧ (Int32.ofNat N).toNatClampNeg = N := ⟨nI_pos (n := N) (by omega), nI_clamp (n := N) (by omega)⟩
theorem g_newa0 (hx : p.tables.exec = Jvm.exec) (hb : c.code = cc) (hts : ∀ w ∈ lw_gd, w.before args s = true) (hKk : va_K D g_cls (g_tys cA) s) (hH : g_RH B D cA h H) (hS : va_S (g_A B) s.heap H locs)
    {t : ArrayType} {tg N a3 : Nat} {ty : FieldType} (hN : N ≤ 100000) (hw9 : g_w a3 = some (Cond.arrayClass ty)) (hty : newarray.typeOf t = ty) (htg : (g_tys cA)[tg]? = some (cA tg, ty)) (hbytes : N * componentBytes ty ≤ 536870912) (hdv : defaultValue ty = .int 0) (hra : ∀ (U : State) (k : ClassId), va_RA U k ty → U.vm.findClass ("[" ++ ty.toString) = some k) (hcells : cells + 1 ≤ R.cells) (hslots : slots + N ≤ R.slots) (hdg : decode cc pc = .ok (.newarray t, 2))
    (kk : ∀ H1 : Heap, g_RH B D cA (h ++ [iA tg N (fun _ => I 0)]) H1 → va_S (g_A B) s.heap H1 locs → W p l e R s m args below meth c H1 locs (cells + 1) (slots + N) Qf (F0 m (pc + 2) ls (.ref (B.1 + h.length) :: rest))) : W p l e R s m args below meth c H locs cells slots Qf (F0 m pc ls (.int (Int32.ofNat N) :: rest)) := by
  subst hty
  refine va_newaK hx hb (hts _ (g_wm hw9)) rfl hdg rfl (g_n32 hN).1 (g_n32 hN).2 hbytes hcells hslots hH.1 fun H1 cA' e1 z1 o1 hAr hNm => ?_
  rw [← hH.1] at e1 z1 o1
  have hcA : cA' = cA tg := Option.some.inj (hNm.symm.trans (hra _ _ (hKk.2 tg _ htg).2))
  subst hcA
  refine kk H1 (hH.push z1 o1 ?_) (g_Sgrow hS z1 o1)
  rw [← hH.1]
  show H1[H.size]? = some (vp_cell (cA tg) (N, .inl (fun _ => I 0)))
  rw [e1, hdv, vp_cell_i, I_zero]
theorem g_newa (hx : p.tables.exec = Jvm.exec) (hb : c.code = cc) (hts : ∀ w ∈ lw_gd, w.before args s = true) (hKk : va_K D g_cls (g_tys cA) s) (hH : g_RH B D cA h H) (hS : va_S (g_A B) s.heap H locs) (_ : B.1 ≤ s.heap.size)
    {t : ArrayType} {tg N a3 : Nat} (hck : g_na t tg N a3 = true) (hcells : cells + 1 ≤ R.cells) (hslots : slots + N ≤ R.slots) (hdg : decode cc pc = .ok (.newarray t, 2))
    (kk : ∀ H1 : Heap, g_RH B D cA (h ++ [iA tg N (fun _ => I 0)]) H1 → va_S (g_A B) s.heap H1 locs → W p l e R s m args below meth c H1 locs (cells + 1) (slots + N) Qf (F0 m (pc + 2) ls (.ref (B.1 + h.length) :: rest))) : W p l e R s m args below meth c H locs cells slots Qf (F0 m pc ls (.int (Int32.ofNat N) :: rest)) := by
  unfold g_na at hck
  split at hck
  · simp only [Bool.and_eq_true, decide_eq_true_eq] at hck
    obtain ⟨⟨rfl, hN⟩, hw9⟩ := hck
    exact g_newa0 (ty := .int) hx hb hts hKk hH hS hN hw9 rfl rfl (by show N * 4 ≤ _; omega) rfl (fun U k h => h) hcells hslots hdg kk
  · simp only [Bool.and_eq_true, decide_eq_true_eq] at hck
    obtain ⟨⟨rfl, hN⟩, hw9⟩ := hck
    exact g_newa0 (ty := .char) hx hb hts hKk hH hS hN hw9 rfl rfl (by show N * 2 ≤ _; omega) rfl (fun U k h => h) hcells hslots hdg kk
  · cases hck
def g_nq (own : String) (i tg N a3 : Nat) : Bool := decide (N ≤ 100000) && ((decide (tg = 2) && decide (g_w a3 = some (Cond.classLink own i "VectorPens$Stroke"))) || (decide (tg = 3) && decide (g_w a3 = some (Cond.classLink own i "VectorPens$Drawing"))))
theorem g_newq0 (hx : p.tables.exec = Jvm.exec) (hb : c.code = cc) (hts : ∀ w ∈ lw_gd, w.before args s = true) (hown : s.vm.findClass own = some m.cls) (hKk : va_K D g_cls (g_tys cA) s) (hH : g_RH B D cA h H) (hS : va_S (g_A B) s.heap H locs)
    {i tg N a3 : Nat} {C : String} (hN : N ≤ 100000) (hw9 : g_w a3 = some (Cond.classLink own i C)) (hw8 : va_AO C s) (htg : (g_tys cA)[tg]? = some (cA tg, .object C)) (hcells : cells + 1 ≤ R.cells) (hslots : slots + N ≤ R.slots) (hdg : decode cc pc = .ok (.anewarray i, 3))
    (kk : ∀ H1 : Heap, g_RH B D cA (h ++ [rA tg N (fun _ => none)]) H1 → va_S (g_A B) s.heap H1 locs → W p l e R s m args below meth c H1 locs (cells + 1) (slots + N) Qf (F0 m (pc + 3) ls (.ref (B.1 + h.length) :: rest))) : W p l e R s m args below meth c H locs cells slots Qf (F0 m pc ls (.int (Int32.ofNat N) :: rest)) := by
  have hn := (g_n32 hN).2
  refine W.anew hx hb hown (hts _ (g_wm hw9)) (va_AO.use hw8) rfl hdg rfl (g_n32 hN).1 (by rw [hn]; omega) hcells (by rw [hn]; exact hslots) fun cA' kA comp f1 f2 f3 f4 => ?_
  rw [hn]
  generalize hH1 : H.push ({ cls := cA', slots := Array.replicate N .null, vm := .none } : Cell) = H1
  have z1 : H1.size = H.size + 1 := by rw [← hH1, Array.size_push]
  have e1 : H1[H.size]? = some (arrV cA' N (fun _ => .null)) := by rw [← hH1, Array.getElem?_push_size, ← arrV_new]
  have o1 : ∀ q : Nat, q < H.size → H1[q]? = H[q]? := fun q hq => by rw [← hH1, Array.getElem?_push, if_neg (Nat.ne_of_lt hq)]
  obtain ⟨_, _, -, -, -, k4⟩ := (hKk.2 tg _ htg).2
  have hcA : cA' = cA tg := Option.some.inj (f1.symm.trans k4)
  subst hcA
  have := kk H1 (hH.push z1 o1 ?_) (g_Sgrow hS z1 o1)
  · rw [← hH.1] at this
    exact this
  · rw [← hH.1]
    show H1[H.size]? = some (vp_cell (cA tg) (N, .inr (.inr (.inr (.inr (fun _ => none))))))
    rw [e1, vp_cell_q]
    rfl
theorem g_newq (hx : p.tables.exec = Jvm.exec) (hb : c.code = cc) (hts : ∀ w ∈ lw_gd, w.before args s = true) (hown : s.vm.findClass own = some m.cls) (hKk : g_KK D cA s) (hH : g_RH B D cA h H) (hS : va_S (g_A B) s.heap H locs) (_ : B.1 ≤ s.heap.size)
    {i tg N a3 : Nat} (hck : g_nq own i tg N a3 = true) (hcells : cells + 1 ≤ R.cells) (hslots : slots + N ≤ R.slots) (hdg : decode cc pc = .ok (.anewarray i, 3))
    (kk : ∀ H1 : Heap, g_RH B D cA (h ++ [rA tg N (fun _ => none)]) H1 → va_S (g_A B) s.heap H1 locs → W p l e R s m args below meth c H1 locs (cells + 1) (slots + N) Qf (F0 m (pc + 3) ls (.ref (B.1 + h.length) :: rest))) : W p l e R s m args below meth c H locs cells slots Qf (F0 m pc ls (.int (Int32.ofNat N) :: rest)) := by
  unfold g_nq at hck
  simp only [Bool.and_eq_true, Bool.or_eq_true, decide_eq_true_eq] at hck
  obtain ⟨hN, ⟨rfl, h1⟩ | ⟨rfl, h1⟩⟩ := hck
  · exact g_newq0 hx hb hts hown hKk.1 hH hS hN h1 hKk.2.1 rfl hcells hslots hdg kk
  · exact g_newq0 hx hb hts hown hKk.1 hH hS hN h1 hKk.2.2.1 rfl hcells hslots hdg kk
end GROWS
/-! ===== calls ===== -/
def g_mk (k : Nat) (v : Int) : Bool := decide (g_w (g_m k).2.2.2.2.1 = some (Cond.code (g_m k).1 (g_m k).2.1 (g_m k).2.2.1 (g_m k).2.2.2.1)) && decide (g_w (g_m k).2.2.2.2.2.2.2.1 = some (Cond.initialized (g_m k).1.cls)) && decide ((g_m k).1.cls ≠ "java/lang/invoke/MethodHandle") && decide ((g_m k).1.cls ≠ "java/lang/invoke/VarHandle") && decide ((parseMethodDescriptor (g_m k).1.desc).map (fun d => d.parameters.length) = some v.toNat) && decide ((g_m k).2.2.1 ≤ 17)
/-- the code's word stands at its place: by rfl, where comparing the bytes is dear -/
def g_cd (k : Nat) : Prop := g_w (g_m k).2.2.2.2.1 = some (Cond.code (g_m k).1 (g_m k).2.1 (g_m k).2.2.1 (g_m k).2.2.2.1)
def g_mT (k : Nat) (v : Int) : Bool := decide (g_w (g_m k).2.2.2.2.2.2.2.1 = some (Cond.initialized (g_m k).1.cls)) && decide ((g_m k).1.cls ≠ "java/lang/invoke/MethodHandle") && decide ((g_m k).1.cls ≠ "java/lang/invoke/VarHandle") && decide ((parseMethodDescriptor (g_m k).1.desc).map (fun d => d.parameters.length) = some v.toNat) && decide ((g_m k).2.2.1 ≤ 79)
def g_cV (own : String) (i k ci a3 : Nat) (v : Int) : Bool := g_mk k v && decide (g_w a3 = some (Cond.methodLink own i (g_m k).1)) && decide (g_w (g_m k).2.2.2.2.2.1 = some (Cond.instanceMethod (g_m k).1)) && decide (g_w (g_m k).2.2.2.2.2.2.1 = some (Cond.selects (g_m k).1.cls (g_m k).1 (g_m k).1)) && decide ((g_cls[ci]?).map (fun q => q.1) = some (g_m k).1.cls)
def g_cS (own : String) (i k a3 : Nat) (v : Int) : Bool := g_mk k v && decide (g_w a3 = some (Cond.methodLink own i (g_m k).1)) && decide (g_w (g_m k).2.2.2.2.2.1 = some (Cond.static (g_m k).1))
def g_cT (own : String) (i k a3 : Nat) (v : Int) : Bool := g_mT k v && decide (g_w a3 = some (Cond.methodLink own i (g_m k).1)) && decide (g_w (g_m k).2.2.2.2.2.1 = some (Cond.static (g_m k).1))
def g_cI (own : String) (i k a3 : Nat) (v : Int) : Bool := g_mk k v && decide (g_w a3 = some (Cond.methodLink own i (g_m k).1)) && decide (g_w (g_m k).2.2.2.2.2.1 = some (Cond.instanceMethod (g_m k).1)) && decide ((g_m k).1.name = "<init>") && decide ((g_m k).2.2.2.1 = none)
def g_oI : Option Nat := none
def g_cO (own : String) (i a3 : Nat) : Bool := decide (g_w a3 = some (Cond.methodLink own i Lib.objectInit))
theorem g_oinst : Cond.instanceMethod Lib.objectInit ∈ lw_gd := List.mem_filter.mpr ⟨List.mem_of_getElem? (l := lw_tbl) (i := 31) (by decide +kernel), rfl⟩
theorem g_ocode : Cond.code Lib.objectInit ⟨#[0xb1]⟩ 1 none ∈ lw_gd := by
  have h : ∃ n, lw_tbl[n]? = some (Cond.code Lib.objectInit ⟨#[0xb1]⟩ 1 none) := ⟨32, by decide +kernel⟩
  obtain ⟨n, hn⟩ := h
  exact List.mem_filter.mpr ⟨List.mem_of_getElem? hn, rfl⟩
theorem g_mk_spec {k : Nat} {v : Int} (h : g_mk k v = true) : (∀ w ∈ g_ws k, w ∈ lw_gd) ∧ Cond.initialized (g_m k).1.cls ∈ lw_gd ∧ (g_m k).1.cls ≠ "java/lang/invoke/MethodHandle" ∧ (g_m k).1.cls ≠ "java/lang/invoke/VarHandle" ∧ (parseMethodDescriptor (g_m k).1.desc).map (fun d => d.parameters.length) = some v.toNat ∧ (g_m k).2.2.1 ≤ 17 := by
  unfold g_mk at h
  simp only [Bool.and_eq_true, decide_eq_true_eq] at h
  obtain ⟨⟨⟨⟨⟨h1, h2⟩, h3⟩, h4⟩, h5⟩, h6⟩ := h
  refine ⟨fun w hw => ?_, g_wm h2, h3, h4, h5, h6⟩
  rcases List.mem_cons.mp hw with rfl | hw
  · exact g_wm h1
  · exact hw
theorem g_mT_spec {k : Nat} {v : Int} (h1 : g_cd k) (h : g_mT k v = true) : (∀ w ∈ g_ws k, w ∈ lw_gd) ∧ Cond.initialized (g_m k).1.cls ∈ lw_gd ∧ (g_m k).1.cls ≠ "java/lang/invoke/MethodHandle" ∧ (g_m k).1.cls ≠ "java/lang/invoke/VarHandle" ∧ (parseMethodDescriptor (g_m k).1.desc).map (fun d => d.parameters.length) = some v.toNat ∧ (g_m k).2.2.1 ≤ 79 := by
  unfold g_mT at h
  simp only [Bool.and_eq_true, decide_eq_true_eq] at h
  obtain ⟨⟨⟨⟨h2, h3⟩, h4⟩, h5⟩, h6⟩ := h
  refine ⟨fun w hw => ?_, g_wm h2, h3, h4, h5, h6⟩
  rcases List.mem_cons.mp hw with rfl | hw
  · exact g_wm h1
  · exact hw
theorem g_catsum (B : g_Bs) (r : List Value) (h : r.length ≤ 4) : ((r.map (g_cv B)).map fun v => v.category).sum ≤ 8 := by
  have key : ∀ l : List Value, (l.map fun v => v.category).sum ≤ 2 * l.length := by
    intro l
    induction l with
    | nil => simp
    | cons x r ih =>
      rw [List.map_cons, List.sum_cons, List.length_cons]
      have := lv_cat x
      omega
  have := key (r.map (g_cv B))
  rw [List.length_map] at this
  omega
theorem g_mabs_w : Cond.static Lib.Math.abs.name ∈ lw_gd ∧ Cond.initialized "java/lang/Math" ∈ lw_gd ∧ Cond.code Lib.Math.abs.name Lib.Math.abs.code 1 (some .int) ∈ lw_gd := ⟨g_wm (n := 2092) (by decide +kernel), g_wm (n := 1010) (by decide +kernel), g_wm (n := 2093) (by decide +kernel)⟩
theorem g_mlab_w : Cond.static Lib.MathLoose.abs_long.x ∈ lw_gd ∧ Cond.initialized "java/lang/Math" ∈ lw_gd ∧ Cond.code Lib.MathLoose.abs_long.x Lib.MathLoose.abs_long.code 2 (some .long) ∈ lw_gd := ⟨g_wm (n := 3066) (by decide +kernel), g_wm (n := 1010) (by decide +kernel), g_wm (n := 3067) (by decide +kernel)⟩
theorem g_mmax_w : Cond.static Lib.Math.max.name ∈ lw_gd ∧ Cond.initialized "java/lang/Math" ∈ lw_gd ∧ Cond.code Lib.Math.max.name Lib.Math.max.code 2 (some .int) ∈ lw_gd := ⟨g_wm (n := 2025) (by decide +kernel), g_wm (n := 1010) (by decide +kernel), g_wm (n := 2026) (by decide +kernel)⟩
theorem g_mmin_w : Cond.static Lib.Math.min.name ∈ lw_gd ∧ Cond.initialized "java/lang/Math" ∈ lw_gd ∧ Cond.code Lib.Math.min.name Lib.Math.min.code 2 (some .int) ∈ lw_gd := ⟨g_wm (n := 2028) (by decide +kernel), g_wm (n := 1010) (by decide +kernel), g_wm (n := 2029) (by decide +kernel)⟩
def g_cM (own : String) (i a1 a3 : Nat) : Bool := if a1 = 9991 then decide (g_w a3 = some (Cond.methodLink own i Lib.Math.abs.name)) else if a1 = 9992 then decide (g_w a3 = some (Cond.methodLink own i Lib.MathLoose.abs_long.x)) else if a1 = 9993 then decide (g_w a3 = some (Cond.methodLink own i Lib.Math.max.name)) else if a1 = 9994 then decide (g_w a3 = some (Cond.methodLink own i Lib.Math.min.name)) else false
section GCALLS
variable {p : Program} {l : Launch} {e : Env} {s : State} {m : MethodId} {args : Array Value} {below : List Frame} {meth : Method} {c : Code} {H : Heap} {locs : List Loc} {ls : Array Slot} {B : g_Bs} {D : va_G} {cA : Nat → ClassId} {h : g_H} {k d mc ms cs ss pc : Nat} {L : List (Option Value)} {st : List Value} {Q : g_Po}
theorem g_after {R : Jvm.Room} {Qf : State → Prop} {mc' ms' : Nat} {st0 r : List Value} {av : Array Value} {Q' : g_Po} (hr : va_Run p l e R s m args below meth c H locs cs ss mc' ms' (F0 m pc ls st0) (r.map (g_cv B)) (g_Qc B D cA Q' av) (g_A B)) (hS : va_S (g_A B) s.heap H locs)
    (kk : ∀ (r9 : Option Value) (h9 : g_H) (H1 : Heap) (locs1 : List Loc), Q' r9 h9 → g_RH B D cA h9 H1 → va_S (g_A B) s.heap H1 locs1 → W p l e R s m args below meth c H1 locs1 (cs + mc') (ss + ms') Qf (F0 m (pc + 3) ls ((r9.toList ++ r).map (g_cv B)))) : W p l e R s m args below meth c H locs cs ss Qf (F0 m pc ls st0) := by
  intro T hT X
  obtain ⟨v, st₀, t, T', L', h0, X', hL', e1, e2, ⟨⟨r9, h9, hq, hv, hrh⟩, hz, hk⟩, stp⟩ := hr T hT X
  have hv' : v = r9.map (g_cv B) := Outcome.returned.inj hv
  subst hv'
  rw [h0] at hz hk
  have h3 := kk r9 h9 T'.heap (locs ++ L') hq (by rw [e1]; exact hrh) ⟨Nat.le_trans hS.1 (by rw [e1]; exact hz), fun q h1 h2 => by rw [e1, hk q (Nat.lt_of_lt_of_le h1 hS.1) h2]; exact hS.2.1 q h1 h2, fun q hq => by
      rcases List.mem_append.mp hq with h | h
      · exact hS.2.2 q h
      · exact hL' q h⟩
  have hst : (r9.toList ++ r).map (g_cv B) = (r9.map (g_cv B)).toList ++ r.map (g_cv B) := by cases r9 <;> rfl
  rw [hst] at h3
  obtain ⟨t2, a1, b1⟩ := h3 T' rfl X'
  exact ⟨t2, stp t2 a1, b1⟩
theorem g_room (hd : 1 ≤ d) {k' mc' ms' : Nat} (hm : (g_m k').2.2.1 ≤ 17 ∨ (d = 11 ∧ (g_m k').2.2.1 ≤ 79)) : (g_rm (d - 1) mc' ms').frames + 1 ≤ (g_rm d mc ms).frames ∧ 8 + ((g_m k').2.2.1 + 11) + (g_rm (d - 1) mc' ms').locals ≤ (g_rm d mc ms).locals := by
  refine ⟨by show d - 1 + 1 ≤ d; omega, ?_⟩
  exact g_lo_st hd hm
theorem g_split {n b : Nat} {r : List Value} (hr : st.drop n = .ref b :: r) : (st.take n).length = n ∧ st.map (g_cv B) = (((st.take n).reverse.map (g_cv B)).reverse) ++ .ref (B.1 + b) :: r.map (g_cv B) := by
  have hl : n < st.length := by
    rcases Nat.lt_or_ge n st.length with h | h
    · exact h
    · rw [List.drop_eq_nil_of_le h] at hr; cases hr
  refine ⟨by rw [List.length_take]; omega, ?_⟩
  have : st.map (g_cv B) = (st.take n ++ st.drop n).map (g_cv B) := by rw [List.take_append_drop]
  rw [this, hr, List.map_append, ← List.map_reverse, List.reverse_reverse]
  rfl
theorem g_virt (hC : g_Cx k p s m args meth c B D cA) (hH : g_RH B D cA h H) (hS : va_S (g_A B) s.heap H locs) (hL : g_LR B ls (g_m k).2.2.1 L) {i k' ci a3 b : Nat} {v : Int} (hck : g_cV (g_m k).1.cls i k' ci a3 v = true) {r : List Value} (hr9 : st.drop v.toNat = .ref b :: r) (hl9 : r.length ≤ 4) (hd9 : 1 ≤ d) {fs : List Value} (hc9 : h[b]? = some (ob ci fs))
    (hw : Call k' (d - 1) 0 0 (.ref b :: (st.take v.toNat).reverse) h (fun r9 h9 => G k d mc ms cs ss (pc + 3) L (r9.toList ++ r) h9 Q)) (hd : decode (g_m k).2.1 pc = .ok (.invokevirtual i, 3)) (hcm : cs ≤ mc := by omega) (hsm : ss ≤ ms := by omega) :
    W p l e (g_rm d mc ms) s m args below meth c H locs cs ss (MQ below (g_Qc B D cA Q) args s mc ms (g_A B)) (F0 m pc ls (st.map (g_cv B))) := by
  obtain ⟨hx, hb, hml, hr, hown, hts, hlk, hnm, hKk, hBs⟩ := id hC
  unfold g_cV at hck
  simp only [Bool.and_eq_true, decide_eq_true_eq] at hck
  obtain ⟨⟨⟨⟨hmk, h1⟩, h2⟩, h3⟩, h4⟩ := hck
  obtain ⟨m1, m2, m3, m4, m5, m6⟩ := g_mk_spec hmk
  obtain ⟨hn, hst⟩ := g_split (B := B) hr9
  rw [hst]
  cases hcl : g_cls[ci]? with
  | none => rw [hcl] at h4; cases h4
  | some q =>
    rw [hcl] at h4
    have h5 : q.1 = (g_m k').1.cls := Option.some.inj h4
    have hG : GoodIn lw_gd (wsV (g_m k).1.cls i (g_m k').1.cls (g_m k').1 (g_ws k')) := g_goodIn (fun w hw => by
      rcases List.mem_append.mp hw with h | h
      · simp only [List.mem_cons, List.not_mem_nil, or_false] at h
        rcases h with rfl | rfl | rfl | rfl
        · exact g_wm h1
        · exact g_wm h2
        · exact g_wm h3
        · exact m2
      · exact m1 w h)
    have hrv := va_recv hKk.1 hH.2.1 (ci := ci) (q := q) hcl (g_wd_at hc9)
    rw [h5] at hrv
    refine g_after (mc' := 0) (ms' := 0) (r := r) (va_runV (As := (st.take v.toNat).reverse.map (g_cv B)) (rest := r.map (g_cv B)) ⟨hx, hb, hml, hown, hts⟩ (hw l B D cA) (cwV v.toNat hts hG rfl rfl rfl ⟨rfl, m3, m4, m5⟩ (g_room hd9 (Or.inl m6))) ⟨g_Pc_blind, hrv, fun U hU hW => ⟨rfl, by rw [hU]; exact hH, g_KK.moved hW.alike hKk⟩⟩ rfl (by rw [List.length_map, List.length_reverse, hn]) hL.1 rfl (lv_room (g_catsum B r hl9)) hd ⟨hcm, hsm⟩) hS (fun r9 h9 H1 locs1 hq hh hs => ?_)
    exact hq p l e s m args below meth c B D cA H1 locs1 ls hC hh hs hL
theorem g_stat (hC : g_Cx k p s m args meth c B D cA) (hH : g_RH B D cA h H) (hS : va_S (g_A B) s.heap H locs) (hL : g_LR B ls (g_m k).2.2.1 L) {i k' a3 : Nat} {v : Int} (hck : g_cS (g_m k).1.cls i k' a3 v = true) (hn9 : v.toNat ≤ st.length) (hl9 : (st.drop v.toNat).length ≤ 4) (hd9 : 1 ≤ d)
    (hw : Call k' (d - 1) 0 0 (st.take v.toNat).reverse h (fun r9 h9 => G k d mc ms cs ss (pc + 3) L (r9.toList ++ st.drop v.toNat) h9 Q)) (hd : decode (g_m k).2.1 pc = .ok (.invokestatic i, 3)) (hcm : cs ≤ mc := by omega) (hsm : ss ≤ ms := by omega) :
    W p l e (g_rm d mc ms) s m args below meth c H locs cs ss (MQ below (g_Qc B D cA Q) args s mc ms (g_A B)) (F0 m pc ls (st.map (g_cv B))) := by
  obtain ⟨hx, hb, hml, hr, hown, hts, hlk, hnm, hKk, hBs⟩ := id hC
  unfold g_cS at hck
  simp only [Bool.and_eq_true, decide_eq_true_eq] at hck
  obtain ⟨⟨hmk, h1⟩, h2⟩ := hck
  obtain ⟨m1, m2, m3, m4, m5, m6⟩ := g_mk_spec hmk
  have hst : st.map (g_cv B) = (((st.take v.toNat).reverse.map (g_cv B)).reverse) ++ (st.drop v.toNat).map (g_cv B) := by
    rw [← List.map_reverse, List.reverse_reverse, ← List.map_append, List.take_append_drop]
  rw [hst]
  have hG : GoodIn lw_gd (va_wsS (g_m k).1.cls i (g_m k').1 (g_ws k')) := g_goodIn (fun w hw => by
    rcases List.mem_append.mp hw with h | h
    · simp only [List.mem_cons, List.not_mem_nil, or_false] at h
      rcases h with rfl | rfl | rfl
      · exact g_wm h1
      · exact g_wm h2
      · exact m2
    · exact m1 w h)
  refine g_after (mc' := 0) (ms' := 0) (r := st.drop v.toNat) (va_runS (As := (st.take v.toNat).reverse.map (g_cv B)) (rest := (st.drop v.toNat).map (g_cv B)) ⟨hx, hb, hml, hown, hts⟩ (hw l B D cA) (va_cwS v.toNat hts hG rfl rfl rfl ⟨m3, m4, m5⟩ (g_room hd9 (Or.inl m6))) ⟨g_Pc_blind, fun U hU hW => ⟨rfl, by rw [hU]; exact hH, g_KK.moved hW.alike hKk⟩⟩ rfl (by rw [List.length_map, List.length_reverse, List.length_take]; omega) hL.1 rfl (lv_room (g_catsum B _ hl9)) hd ⟨hcm, hsm⟩) hS (fun r9 h9 H1 locs1 hq hh hs => ?_)
  exact hq p l e s m args below meth c B D cA H1 locs1 ls hC hh hs hL
theorem g_stM (hC : g_Cx k p s m args meth c B D cA) (hH : g_RH B D cA h H) (hS : va_S (g_A B) s.heap H locs) (hL : g_LR B ls (g_m k).2.2.1 L) {i k' a3 : Nat} {v : Int} (hcd : g_cd k') (hck : g_cT (g_m k).1.cls i k' a3 v = true) (hn9 : v.toNat ≤ st.length) (hl9 : (st.drop v.toNat).length ≤ 4) (hd9 : d = 11) {mc' ms' : Nat} (hcm : cs + mc' ≤ mc) (hsm : ss + ms' ≤ ms)
    (hw : Call k' (d - 1) mc' ms' (st.take v.toNat).reverse h (fun r9 h9 => G k d mc ms (cs + mc') (ss + ms') (pc + 3) L (r9.toList ++ st.drop v.toNat) h9 Q)) (hd : decode (g_m k).2.1 pc = .ok (.invokestatic i, 3)) :
    W p l e (g_rm d mc ms) s m args below meth c H locs cs ss (MQ below (g_Qc B D cA Q) args s mc ms (g_A B)) (F0 m pc ls (st.map (g_cv B))) := by
  obtain ⟨hx, hb, hml, hr, hown, hts, hlk, hnm, hKk, hBs⟩ := id hC
  unfold g_cT at hck
  simp only [Bool.and_eq_true, decide_eq_true_eq] at hck
  obtain ⟨⟨hmk, h1⟩, h2⟩ := hck
  obtain ⟨m1, m2, m3, m4, m5, m6⟩ := g_mT_spec hcd hmk
  have hst : st.map (g_cv B) = (((st.take v.toNat).reverse.map (g_cv B)).reverse) ++ (st.drop v.toNat).map (g_cv B) := by
    rw [← List.map_reverse, List.reverse_reverse, ← List.map_append, List.take_append_drop]
  rw [hst]
  have hG : GoodIn lw_gd (va_wsS (g_m k).1.cls i (g_m k').1 (g_ws k')) := g_goodIn (fun w hw => by
    rcases List.mem_append.mp hw with h | h
    · simp only [List.mem_cons, List.not_mem_nil, or_false] at h
      rcases h with rfl | rfl | rfl
      · exact g_wm h1
      · exact g_wm h2
      · exact m2
    · exact m1 w h)
  refine g_after (mc' := mc') (ms' := ms') (r := st.drop v.toNat) (va_runS (As := (st.take v.toNat).reverse.map (g_cv B)) (rest := (st.drop v.toNat).map (g_cv B)) ⟨hx, hb, hml, hown, hts⟩ (hw l B D cA) (va_cwS v.toNat hts hG rfl rfl rfl ⟨m3, m4, m5⟩ (g_room (by omega) (Or.inr ⟨hd9, m6⟩))) ⟨g_Pc_blind, fun U hU hW => ⟨rfl, by rw [hU]; exact hH, g_KK.moved hW.alike hKk⟩⟩ rfl (by rw [List.length_map, List.length_reverse, List.length_take]; omega) hL.1 rfl (lv_room (g_catsum B _ hl9)) hd ⟨hcm, hsm⟩) hS (fun r9 h9 H1 locs1 hq hh hs => ?_)
  exact hq p l e s m args below meth c B D cA H1 locs1 ls hC hh hs hL
theorem g_spec (hC : g_Cx k p s m args meth c B D cA) (hH : g_RH B D cA h H) (hS : va_S (g_A B) s.heap H locs) (hL : g_LR B ls (g_m k).2.2.1 L) {i k' a3 b : Nat} {v : Int} (ha9 : ¬ k' = 9999) (hck0 : if k' = 9999 then g_cO (g_m k).1.cls i a3 = true else g_cI (g_m k).1.cls i k' a3 v = true) {r : List Value} (hr9 : st.drop v.toNat = .ref b :: r) (hl9 : r.length ≤ 4) (hd9 : 1 ≤ d) {mc' ms' : Nat} (hm9 : cs + mc' ≤ mc) (hs9 : ss + ms' ≤ ms)
    (hw : Call k' (d - 1) mc' ms' (.ref b :: (st.take v.toNat).reverse) h (fun r9 h9 => G k d mc ms (cs + mc') (ss + ms') (pc + 3) L (r9.toList ++ r) h9 Q)) (hd : decode (g_m k).2.1 pc = .ok (.invokespecial i, 3)) :
    W p l e (g_rm d mc ms) s m args below meth c H locs cs ss (MQ below (g_Qc B D cA Q) args s mc ms (g_A B)) (F0 m pc ls (st.map (g_cv B))) := by
  obtain ⟨hx, hb, hml, hr, hown, hts, hlk, hnm, hKk, hBs⟩ := id hC
  rw [if_neg ha9] at hck0
  unfold g_cI at hck0
  simp only [Bool.and_eq_true, decide_eq_true_eq] at hck0
  obtain ⟨⟨⟨⟨hmk, h1⟩, h2⟩, h3⟩, h4⟩ := hck0
  obtain ⟨m1, m2, m3, m4, m5, m6⟩ := g_mk_spec hmk
  obtain ⟨hn, hst⟩ := g_split (B := B) hr9
  rw [hst]
  have hws : g_ws k' = Cond.code (g_m k').1 (g_m k').2.1 (g_m k').2.2.1 none :: lw_gd := by unfold g_ws; rw [h4]
  refine g_after (mc' := mc') (ms' := ms') (r := r) (va_runI (As := (st.take v.toNat).reverse.map (g_cv B)) (rest := r.map (g_cv B)) ⟨hx, hb, hml, hown, hts⟩ (hw l B D cA) (cwI v.toNat hts (g_goodIn m1) hws rfl rfl (hts _ m2) (hts _ (g_wm h1)) (hts _ (g_wm h2)) h3 ⟨m3, m4, m5⟩ (g_room hd9 (Or.inl m6))) ⟨g_Pc_blind, fun U hU hW => ⟨rfl, by rw [hU]; exact hH, g_KK.moved hW.alike hKk⟩⟩ rfl (by rw [List.length_map, List.length_reverse, hn]) hL.1 rfl (lv_room (g_catsum B r hl9)) hd ⟨hm9, hs9⟩) hS (fun r9 h9 H1 locs1 hq hh hs => ?_)
  exact hq p l e s m args below meth c B D cA H1 locs1 ls hC hh hs hL
theorem g_oini {Qf : State → Prop} (hC : g_Cx k p s m args meth c B D cA) (hL : g_LR B ls (g_m k).2.2.1 L) {i a3 a : Nat} {r : List Value} (hck : g_cO (g_m k).1.cls i a3 = true) (hl9 : (Value.ref a :: r).length ≤ 4) (hd9 : 1 ≤ d) (hd : decode (g_m k).2.1 pc = .ok (.invokespecial i, 3)) (kk : W p l e (g_rm d mc ms) s m args below meth c H locs cs ss Qf (F0 m (pc + 3) ls (r.map (g_cv B)))) :
    W p l e (g_rm d mc ms) s m args below meth c H locs cs ss Qf (F0 m pc ls ((Value.ref a :: r).map (g_cv B))) := by
  obtain ⟨hx, hb, hml, hr, hown, hts, hlk, hnm, hKk, hBs⟩ := id hC
  unfold g_cO at hck
  have h1 := of_decide_eq_true hck
  have hc := g_catsum B r (by rw [List.length_cons] at hl9; omega)
  have h2 := lv_room (m := m) (pc := pc) (ls := ls) (rest := (Value.ref a :: r).map (g_cv B)) hc
  refine W.objInit hx hb hown (hts _ (g_wm h1)) (hts _ g_oinst) (hts _ g_ocode) rfl (by rw [hml]; exact hL.1) rfl hd hd9 (by have := g_lo_ge d; show _ ≤ g_lo d; omega) kk
end GCALLS
/-! ===== returns ===== -/
def g_rI (rt : Option FieldType) (x : Int32) : Prop := match rt with
  | some .int => True
  | some .boolean => x = I 0 ∨ x = I 1
  | some .char => (x.toUInt32 % 65536).toInt32 = x
  | _ => False
section GRET
variable {p : Program} {l : Launch} {e : Env} {s : State} {m : MethodId} {args : Array Value} {below : List Frame} {meth : Method} {c : Code} {H : Heap} {locs : List Loc} {ls : Array Slot} {B : g_Bs} {D : va_G} {cA : Nat → ClassId} {h : g_H} {k d mc ms cs ss pc : Nat} {Q : g_Po}
theorem g_end (hH : g_RH B D cA h H) (hS : va_S (g_A B) s.heap H locs) {r : Option Value} (hq : Q r h) : ∀ t : State, t.heap = H → s.WarmedH t.vm → g_Qc B D cA Q args s (.returned (r.map (g_cv B))) t := fun t ht _ => ⟨⟨r, h, hq, rfl, by rw [ht]; exact hH⟩, hS.F ht⟩
theorem g_iret (hC : g_Cx k p s m args meth c B D cA) (hH : g_RH B D cA h H) (hS : va_S (g_A B) s.heap H locs) (hm : cs ≤ mc ∧ ss ≤ ms) {x : Int32} (hr9 : g_rI (g_m k).2.2.2.1 x) (hq : Q (some (.int x)) h) (hd : decode (g_m k).2.1 pc = .ok (.ireturn, 1)) :
    W p l e (g_rm d mc ms) s m args below meth c H locs cs ss (MQ below (g_Qc B D cA Q) args s mc ms (g_A B)) (F0 m pc ls [.int x]) := by
  obtain ⟨hx, hb, hml, hr, hown, hts, hlk, hnm, hKk, hBs⟩ := id hC
  refine W.widen hm.1 hm.2 ?_
  unfold g_rI at hr9
  split at hr9
  · next hrt => exact W.zret hx hb (hr.trans hrt) rfl (g_end hH hS hq) hS.2.2 hd hlk
  · next hrt => exact W.zret hx hb (hr.trans hrt) (by rcases hr9 with rfl | rfl <;> rfl) (g_end hH hS hq) hS.2.2 hd hlk
  · next hrt => exact W.zret hx hb (hr.trans hrt) (by show Value.int _ = _; exact congrArg Value.int hr9) (g_end hH hS hq) hS.2.2 hd hlk
  · exact hr9.elim
theorem g_lret (hC : g_Cx k p s m args meth c B D cA) (hH : g_RH B D cA h H) (hS : va_S (g_A B) s.heap H locs) (hm : cs ≤ mc ∧ ss ≤ ms) {x : Int64} (hr9 : (g_m k).2.2.2.1 = some .long) (hq : Q (some (.long x)) h) (hd : decode (g_m k).2.1 pc = .ok (.lreturn, 1)) :
    W p l e (g_rm d mc ms) s m args below meth c H locs cs ss (MQ below (g_Qc B D cA Q) args s mc ms (g_A B)) (F0 m pc ls [.long x]) := by
  obtain ⟨hx, hb, hml, hr, hown, hts, hlk, hnm, hKk, hBs⟩ := id hC
  exact W.widen hm.1 hm.2 (W.lret hx hb (hr.trans hr9) (g_end hH hS hq) hS.2.2 hd hlk)
theorem g_aret (hC : g_Cx k p s m args meth c B D cA) (hH : g_RH B D cA h H) (hS : va_S (g_A B) s.heap H locs) (hm : cs ≤ mc ∧ ss ≤ ms) {x : Value} (hr9 : (g_m k).2.2.2.1 = some (.object "VectorPens$Stroke")) (hv : x = .null ∨ ∃ a, x = .ref a) (hq : Q (some x) h) (hd : decode (g_m k).2.1 pc = .ok (.areturn, 1)) :
    W p l e (g_rm d mc ms) s m args below meth c H locs cs ss (MQ below (g_Qc B D cA Q) args s mc ms (g_A B)) (F0 m pc ls [g_cv B x]) := by
  obtain ⟨hx, hb, hml, hr, hown, hts, hlk, hnm, hKk, hBs⟩ := id hC
  refine W.widen hm.1 hm.2 (W.aret hx hb (hr.trans hr9) (Or.inl ⟨_, rfl⟩) ?_ (g_end hH hS hq) hS.2.2 hd hlk)
  rcases hv with rfl | ⟨a, rfl⟩
  · exact Or.inl rfl
  · exact Or.inr ⟨_, rfl⟩
theorem g_vret (hC : g_Cx k p s m args meth c B D cA) (hH : g_RH B D cA h H) (hS : va_S (g_A B) s.heap H locs) (hm : cs ≤ mc ∧ ss ≤ ms) (hr9 : (g_m k).2.2.2.1 = none) (hq : Q none h) (hd : decode (g_m k).2.1 pc = .ok (.return_, 1)) :
    W p l e (g_rm d mc ms) s m args below meth c H locs cs ss (MQ below (g_Qc B D cA Q) args s mc ms (g_A B)) (F0 m pc ls []) := by
  obtain ⟨hx, hb, hml, hr, hown, hts, hlk, hnm, hKk, hBs⟩ := id hC
  exact W.widen hm.1 hm.2 (W.vret hx hb (hr.trans hr9) (g_end (r := none) hH hS hq) hS.2.2 hd hlk)
end GRET

def g_len (len : Nat) (ins : Instr) : Nat := match ins with
  | .iload_n _ => 1
  | .iload _ => 2
  | .lload_n _ => 1
  | .lload _ => 2
  | .aload_n _ => 1
  | .aload _ => 2
  | .istore_n _ => 1
  | .istore _ => 2
  | .lstore_n _ => 1
  | .lstore _ => 2
  | .astore_n _ => 1
  | .astore _ => 2
  | .iinc _ _ => 3
  | .iconst _ => 1
  | .bipush _ => 2
  | .sipush _ => 3
  | .lconst _ => 1
  | .ldc _ => 2
  | .ldc2_w _ => 3
  | .aconst_null => 1
  | .iadd => 1
  | .isub => 1
  | .imul => 1
  | .iand => 1
  | .ixor => 1
  | .ishr => 1
  | .ior => 1
  | .ishl => 1
  | .idiv => 1
  | .irem => 1
  | .ineg => 1
  | .i2l => 1
  | .i2c => 1
  | .l2i => 1
  | .lneg => 1
  | .ladd => 1
  | .lsub => 1
  | .lmul => 1
  | .ldiv => 1
  | .lshr => 1
  | .lcmp => 1
  | .dup => 1
  | .pop => 1
  | .dup2 => 1
  | .goto _ => 3
  | .ifCond _ _ => 3
  | .if_icmp _ _ => 3
  | .ifnull _ => 3
  | .ifnonnull _ => 3
  | .tableswitch _ _ _ _ => len
  | .getfield _ => 3
  | .iaload => 1
  | .caload => 1
  | .aaload => 1
  | .arraylength => 1
  | .putfield _ => 3
  | .iastore => 1
  | .castore => 1
  | .aastore => 1
  | .new _ => 3
  | .newarray _ => 2
  | .anewarray _ => 3
  | .invokevirtual _ => 3
  | .invokestatic _ => 3
  | .invokespecial _ => 3
  | .ireturn => 1
  | .lreturn => 1
  | .areturn => 1
  | .return_ => 1
  | _ => len + 1
def g_ok (k : Nat) (q : g_E) : Prop := match q with
  | (pc, len, a1, a2, a3, v, .istore_n i) => i.val < (g_m k).2.2.1
  | (pc, len, a1, a2, a3, v, .istore i) => i < (g_m k).2.2.1
  | (pc, len, a1, a2, a3, v, .lstore_n i) => i.val + 1 < (g_m k).2.2.1
  | (pc, len, a1, a2, a3, v, .lstore i) => i + 1 < (g_m k).2.2.1
  | (pc, len, a1, a2, a3, v, .astore_n i) => i.val < (g_m k).2.2.1
  | (pc, len, a1, a2, a3, v, .astore i) => i < (g_m k).2.2.1
  | (pc, len, a1, a2, a3, v, .iinc i n) => i < (g_m k).2.2.1 ∧ n = v
  | (pc, len, a1, a2, a3, v, .iconst n) => Int32.ofInt n = Int32.ofInt v
  | (pc, len, a1, a2, a3, v, .bipush n) => (Int8.ofInt n).toInt32 = Int32.ofInt v
  | (pc, len, a1, a2, a3, v, .sipush n) => (Int16.ofInt n).toInt32 = Int32.ofInt v
  | (pc, len, a1, a2, a3, v, .ldc n) => g_w a3 = some (Cond.constant (g_m k).1.cls n (Int32.ofInt v))
  | (pc, len, a1, a2, a3, v, .ldc2_w n) => g_w a3 = some (Cond.constantLong (g_m k).1.cls n (Int64.ofInt v))
  | (pc, len, a1, a2, a3, v, .goto off) => (pc : Int) + off = (a1 : Int)
  | (pc, len, a1, a2, a3, v, .ifCond _ off) => (pc : Int) + off = (a1 : Int)
  | (pc, len, a1, a2, a3, v, .if_icmp _ off) => (pc : Int) + off = (a1 : Int)
  | (pc, len, a1, a2, a3, v, .ifnull off) => (pc : Int) + off = (a1 : Int)
  | (pc, len, a1, a2, a3, v, .ifnonnull off) => (pc : Int) + off = (a1 : Int)
  | (pc, len, a1, a2, a3, v, .tableswitch dflt lo hi offs) => 0 ≤ (pc : Int) + dflt ∧ hi < lo + offs.size ∧ ∀ o ∈ offs, 0 ≤ (pc : Int) + o
  | (pc, len, a1, a2, a3, v, .getfield n) => g_fl (g_m k).1.cls n a1 a2 a3 = true
  | (pc, len, a1, a2, a3, v, .putfield n) => g_fl (g_m k).1.cls n a1 a2 a3 = true ∧ g_ft (g_m k).1 v a1 a2 = true
  | (pc, len, a1, a2, a3, v, .new n) => g_nw (g_m k).1.cls n a1 a2 a3 = true
  | (pc, len, a1, a2, a3, v, .newarray t) => g_na t a1 a2 a3 = true
  | (pc, len, a1, a2, a3, v, .anewarray n) => g_nq (g_m k).1.cls n a1 a2 a3 = true
  | (pc, len, a1, a2, a3, v, .invokevirtual n) => g_cV (g_m k).1.cls n a1 a2 a3 v = true
  | (pc, len, a1, a2, a3, v, .invokestatic n) => if a2 = 1 then g_cT (g_m k).1.cls n a1 a3 v = true else if a1 = 9991 ∨ a1 = 9992 ∨ a1 = 9993 ∨ a1 = 9994 then g_cM (g_m k).1.cls n a1 a3 = true else g_cS (g_m k).1.cls n a1 a3 v = true
  | (pc, len, a1, a2, a3, v, .invokespecial n) => if a1 = 9999 then g_cO (g_m k).1.cls n a3 = true else g_cI (g_m k).1.cls n a1 a3 v = true
  | _ => True
def g_okB (k : Nat) (q : g_E) : Bool := match q with
  | (pc, len, a1, a2, a3, v, .istore_n i) => decide (i.val < (g_m k).2.2.1)
  | (pc, len, a1, a2, a3, v, .istore i) => decide (i < (g_m k).2.2.1)
  | (pc, len, a1, a2, a3, v, .lstore_n i) => decide (i.val + 1 < (g_m k).2.2.1)
  | (pc, len, a1, a2, a3, v, .lstore i) => decide (i + 1 < (g_m k).2.2.1)
  | (pc, len, a1, a2, a3, v, .astore_n i) => decide (i.val < (g_m k).2.2.1)
  | (pc, len, a1, a2, a3, v, .astore i) => decide (i < (g_m k).2.2.1)
  | (pc, len, a1, a2, a3, v, .iinc i n) => decide (i < (g_m k).2.2.1 ∧ n = v)
  | (pc, len, a1, a2, a3, v, .iconst n) => decide (Int32.ofInt n = Int32.ofInt v)
  | (pc, len, a1, a2, a3, v, .bipush n) => decide ((Int8.ofInt n).toInt32 = Int32.ofInt v)
  | (pc, len, a1, a2, a3, v, .sipush n) => decide ((Int16.ofInt n).toInt32 = Int32.ofInt v)
  | (pc, len, a1, a2, a3, v, .ldc n) => decide (g_w a3 = some (Cond.constant (g_m k).1.cls n (Int32.ofInt v)))
  | (pc, len, a1, a2, a3, v, .ldc2_w n) => decide (g_w a3 = some (Cond.constantLong (g_m k).1.cls n (Int64.ofInt v)))
  | (pc, len, a1, a2, a3, v, .goto off) => decide ((pc : Int) + off = (a1 : Int))
  | (pc, len, a1, a2, a3, v, .ifCond _ off) => decide ((pc : Int) + off = (a1 : Int))
  | (pc, len, a1, a2, a3, v, .if_icmp _ off) => decide ((pc : Int) + off = (a1 : Int))
  | (pc, len, a1, a2, a3, v, .ifnull off) => decide ((pc : Int) + off = (a1 : Int))
  | (pc, len, a1, a2, a3, v, .ifnonnull off) => decide ((pc : Int) + off = (a1 : Int))
  | (pc, len, a1, a2, a3, v, .tableswitch dflt lo hi offs) => decide (0 ≤ (pc : Int) + dflt ∧ hi < lo + offs.size ∧ ∀ o ∈ offs, 0 ≤ (pc : Int) + o)
  | (pc, len, a1, a2, a3, v, .getfield n) => decide (g_fl (g_m k).1.cls n a1 a2 a3 = true)
  | (pc, len, a1, a2, a3, v, .putfield n) => decide (g_fl (g_m k).1.cls n a1 a2 a3 = true ∧ g_ft (g_m k).1 v a1 a2 = true)
  | (pc, len, a1, a2, a3, v, .new n) => decide (g_nw (g_m k).1.cls n a1 a2 a3 = true)
  | (pc, len, a1, a2, a3, v, .newarray t) => decide (g_na t a1 a2 a3 = true)
  | (pc, len, a1, a2, a3, v, .anewarray n) => decide (g_nq (g_m k).1.cls n a1 a2 a3 = true)
  | (pc, len, a1, a2, a3, v, .invokevirtual n) => decide (g_cV (g_m k).1.cls n a1 a2 a3 v = true)
  | (pc, len, a1, a2, a3, v, .invokestatic n) => decide (if a2 = 1 then g_cT (g_m k).1.cls n a1 a3 v = true else if a1 = 9991 ∨ a1 = 9992 ∨ a1 = 9993 ∨ a1 = 9994 then g_cM (g_m k).1.cls n a1 a3 = true else g_cS (g_m k).1.cls n a1 a3 v = true)
  | (pc, len, a1, a2, a3, v, .invokespecial n) => decide (if a1 = 9999 then g_cO (g_m k).1.cls n a3 = true else g_cI (g_m k).1.cls n a1 a3 v = true)
  | _ => true
def g_st (k d mc ms : Nat) (Q : g_Po) (K : g_K) (q : g_E) (cs ss : Nat) (L : List (Option Value)) (st : List Value) (h : g_H) : Prop := match q with
  | (pc, len, a1, a2, a3, v, .iload_n i) => g_ldI L[i.val]? (fun x => K cs ss L (.int x :: st) h)
  | (pc, len, a1, a2, a3, v, .iload i) => g_ldI L[i]? (fun x => K cs ss L (.int x :: st) h)
  | (pc, len, a1, a2, a3, v, .lload_n i) => g_ldL L[i.val]? (fun x => K cs ss L (.long x :: st) h)
  | (pc, len, a1, a2, a3, v, .lload i) => g_ldL L[i]? (fun x => K cs ss L (.long x :: st) h)
  | (pc, len, a1, a2, a3, v, .aload_n i) => g_ldA L[i.val]? (fun v => K cs ss L (v :: st) h)
  | (pc, len, a1, a2, a3, v, .aload i) => g_ldA L[i]? (fun v => K cs ss L (v :: st) h)
  | (pc, len, a1, a2, a3, v, .istore_n i) => g_p1 st (fun x r => K cs ss (g_s1 L i.val (.int x)) r h)
  | (pc, len, a1, a2, a3, v, .istore i) => g_p1 st (fun x r => K cs ss (g_s1 L i (.int x)) r h)
  | (pc, len, a1, a2, a3, v, .lstore_n i) => g_l1 st (fun x r => K cs ss (g_s2 L i.val (.long x)) r h)
  | (pc, len, a1, a2, a3, v, .lstore i) => g_l1 st (fun x r => K cs ss (g_s2 L i (.long x)) r h)
  | (pc, len, a1, a2, a3, v, .astore_n i) => g_pA st (fun v r => K cs ss (g_s1 L i.val v) r h)
  | (pc, len, a1, a2, a3, v, .astore i) => g_pA st (fun v r => K cs ss (g_s1 L i v) r h)
  | (pc, len, a1, a2, a3, v, .iinc i n) => g_ldI L[i]? (fun x => K cs ss (g_s1 L i (.int (x + I v))) st h)
  | (pc, len, a1, a2, a3, v, .iconst n) => K cs ss L (.int (I v) :: st) h
  | (pc, len, a1, a2, a3, v, .bipush n) => K cs ss L (.int (I v) :: st) h
  | (pc, len, a1, a2, a3, v, .sipush n) => K cs ss L (.int (I v) :: st) h
  | (pc, len, a1, a2, a3, v, .lconst n) => K cs ss L (.long (J n.val) :: st) h
  | (pc, len, a1, a2, a3, v, .ldc n) => K cs ss L (.int (I v) :: st) h
  | (pc, len, a1, a2, a3, v, .ldc2_w n) => K cs ss L (.long (J v) :: st) h
  | (pc, len, a1, a2, a3, v, .aconst_null) => K cs ss L (.null :: st) h
  | (pc, len, a1, a2, a3, v, .iadd) => g_p2 st (fun x y r => K cs ss L (.int (x + y) :: r) h)
  | (pc, len, a1, a2, a3, v, .isub) => g_p2 st (fun x y r => K cs ss L (.int (x - y) :: r) h)
  | (pc, len, a1, a2, a3, v, .imul) => g_p2 st (fun x y r => K cs ss L (.int (x * y) :: r) h)
  | (pc, len, a1, a2, a3, v, .iand) => g_p2 st (fun x y r => K cs ss L (.int (x &&& y) :: r) h)
  | (pc, len, a1, a2, a3, v, .ixor) => g_p2 st (fun x y r => K cs ss L (.int (x ^^^ y) :: r) h)
  | (pc, len, a1, a2, a3, v, .ishr) => g_p2 st (fun x y r => K cs ss L (.int (x >>> (y &&& 31)) :: r) h)
  | (pc, len, a1, a2, a3, v, .ior) => g_p2 st (fun x y r => K cs ss L (.int (x ||| y) :: r) h)
  | (pc, len, a1, a2, a3, v, .ishl) => g_p2 st (fun x y r => K cs ss L (.int (x <<< (y &&& 31)) :: r) h)
  | (pc, len, a1, a2, a3, v, .idiv) => g_p2 st (fun x y r => ¬ y = I 0 ∧ K cs ss L (.int (x / y) :: r) h)
  | (pc, len, a1, a2, a3, v, .irem) => g_p2 st (fun x y r => ¬ y = I 0 ∧ K cs ss L (.int (x - x / y * y) :: r) h)
  | (pc, len, a1, a2, a3, v, .ineg) => g_p1 st (fun x r => K cs ss L (.int (-x) :: r) h)
  | (pc, len, a1, a2, a3, v, .i2l) => g_p1 st (fun x r => K cs ss L (.long x.toInt64 :: r) h)
  | (pc, len, a1, a2, a3, v, .i2c) => g_p1 st (fun x r => K cs ss L (.int (x.toUInt32 % 65536).toInt32 :: r) h)
  | (pc, len, a1, a2, a3, v, .l2i) => g_l1 st (fun x r => K cs ss L (.int x.toInt32 :: r) h)
  | (pc, len, a1, a2, a3, v, .lneg) => g_l1 st (fun x r => K cs ss L (.long (-x) :: r) h)
  | (pc, len, a1, a2, a3, v, .ladd) => g_l2 st (fun x y r => K cs ss L (.long (x + y) :: r) h)
  | (pc, len, a1, a2, a3, v, .lsub) => g_l2 st (fun x y r => K cs ss L (.long (x - y) :: r) h)
  | (pc, len, a1, a2, a3, v, .lmul) => g_l2 st (fun x y r => K cs ss L (.long (x * y) :: r) h)
  | (pc, len, a1, a2, a3, v, .ldiv) => g_l2 st (fun x y r => ¬ y = J 0 ∧ K cs ss L (.long (x / y) :: r) h)
  | (pc, len, a1, a2, a3, v, .lshr) => g_li st (fun x y r => K cs ss L (.long (x >>> (y.toInt64 &&& 63)) :: r) h)
  | (pc, len, a1, a2, a3, v, .lcmp) => g_l2 st (fun x y r => K cs ss L (.int (lg_cmp x y) :: r) h)
  | (pc, len, a1, a2, a3, v, .dup) => g_p1v st (fun v r => K cs ss L (v :: v :: r) h)
  | (pc, len, a1, a2, a3, v, .pop) => g_p1v st (fun v r => K cs ss L r h)
  | (pc, len, a1, a2, a3, v, .dup2) => g_p2v st (fun v w r => K cs ss L (v :: w :: v :: w :: r) h)
  | (pc, len, a1, a2, a3, v, .goto off) => G k d mc ms cs ss a1 L st h Q
  | (pc, len, a1, a2, a3, v, .ifCond .eq off) => g_p1 st (fun x r => (x = I 0 → G k d mc ms cs ss a1 L r h Q) ∧ (¬ x = I 0 → G k d mc ms cs ss (pc + len) L r h Q))
  | (pc, len, a1, a2, a3, v, .if_icmp .eq off) => g_p2 st (fun x y r => (x = y → G k d mc ms cs ss a1 L r h Q) ∧ (¬ x = y → G k d mc ms cs ss (pc + len) L r h Q))
  | (pc, len, a1, a2, a3, v, .ifCond .ne off) => g_p1 st (fun x r => (¬ x = I 0 → G k d mc ms cs ss a1 L r h Q) ∧ (x = I 0 → G k d mc ms cs ss (pc + len) L r h Q))
  | (pc, len, a1, a2, a3, v, .if_icmp .ne off) => g_p2 st (fun x y r => (¬ x = y → G k d mc ms cs ss a1 L r h Q) ∧ (x = y → G k d mc ms cs ss (pc + len) L r h Q))
  | (pc, len, a1, a2, a3, v, .ifCond .lt off) => g_p1 st (fun x r => (x < I 0 → G k d mc ms cs ss a1 L r h Q) ∧ (¬ x < I 0 → G k d mc ms cs ss (pc + len) L r h Q))
  | (pc, len, a1, a2, a3, v, .if_icmp .lt off) => g_p2 st (fun x y r => (x < y → G k d mc ms cs ss a1 L r h Q) ∧ (¬ x < y → G k d mc ms cs ss (pc + len) L r h Q))
  | (pc, len, a1, a2, a3, v, .ifCond .ge off) => g_p1 st (fun x r => (I 0 ≤ x → G k d mc ms cs ss a1 L r h Q) ∧ (¬ I 0 ≤ x → G k d mc ms cs ss (pc + len) L r h Q))
  | (pc, len, a1, a2, a3, v, .if_icmp .ge off) => g_p2 st (fun x y r => (y ≤ x → G k d mc ms cs ss a1 L r h Q) ∧ (¬ y ≤ x → G k d mc ms cs ss (pc + len) L r h Q))
  | (pc, len, a1, a2, a3, v, .ifCond .gt off) => g_p1 st (fun x r => (I 0 < x → G k d mc ms cs ss a1 L r h Q) ∧ (¬ I 0 < x → G k d mc ms cs ss (pc + len) L r h Q))
  | (pc, len, a1, a2, a3, v, .if_icmp .gt off) => g_p2 st (fun x y r => (y < x → G k d mc ms cs ss a1 L r h Q) ∧ (¬ y < x → G k d mc ms cs ss (pc + len) L r h Q))
  | (pc, len, a1, a2, a3, v, .ifCond .le off) => g_p1 st (fun x r => (x ≤ I 0 → G k d mc ms cs ss a1 L r h Q) ∧ (¬ x ≤ I 0 → G k d mc ms cs ss (pc + len) L r h Q))
  | (pc, len, a1, a2, a3, v, .if_icmp .le off) => g_p2 st (fun x y r => (x ≤ y → G k d mc ms cs ss a1 L r h Q) ∧ (¬ x ≤ y → G k d mc ms cs ss (pc + len) L r h Q))
  | (pc, len, a1, a2, a3, v, .ifnull off) => g_pA st (fun v r => (v = .null → G k d mc ms cs ss a1 L r h Q) ∧ (¬ v = .null → G k d mc ms cs ss (pc + len) L r h Q))
  | (pc, len, a1, a2, a3, v, .ifnonnull off) => g_pA st (fun v r => (¬ v = .null → G k d mc ms cs ss a1 L r h Q) ∧ (v = .null → G k d mc ms cs ss (pc + len) L r h Q))
  | (pc, len, a1, a2, a3, v, .tableswitch dflt lo hi offs) => g_p1 st (fun x r => ((x.toInt < lo ∨ hi < x.toInt) → G k d mc ms cs ss ((pc : Int) + dflt).toNat L r h Q) ∧ ∀ (j : Nat) (off : Int), offs[j]? = some off → x.toInt = lo + j → x.toInt ≤ hi → G k d mc ms cs ss ((pc : Int) + off).toNat L r h Q)
  | (pc, len, a1, a2, a3, v, .getfield n) => g_pR st (fun a r => g_ob a1 h[a]? (fun fs => g_gt fs[a2]? (fun v => K cs ss L (v :: r) h)))
  | (pc, len, a1, a2, a3, v, .iaload) => g_iR st (fun a i r => g_ia 0 h[a]? (fun n f => ∃ j : Nat, (j < n ∧ n < 2147483648) ∧ i = I j ∧ K cs ss L (.int (f j) :: r) h))
  | (pc, len, a1, a2, a3, v, .caload) => g_iR st (fun a i r => g_ia 1 h[a]? (fun n f => ∃ j : Nat, (j < n ∧ n < 2147483648) ∧ i = I j ∧ K cs ss L (.int (f j) :: r) h))
  | (pc, len, a1, a2, a3, v, .aaload) => g_iR st (fun a i r => g_ra h[a]? (fun t n f => (t = 2 ∨ t = 3) ∧ ∃ j : Nat, (j < n ∧ n < 2147483648) ∧ i = I j ∧ K cs ss L (va_rf (f j) :: r) h))
  | (pc, len, a1, a2, a3, v, .arraylength) => g_pR st (fun a r => g_al h[a]? (fun n => K cs ss L (.int (I n) :: r) h))
  | (pc, len, a1, a2, a3, v, .putfield n) => g_pv v st (fun w a r => g_ob a1 h[a]? (fun fs => a2 < fs.length ∧ K cs ss L r (h.set a (ob a1 (fs.set a2 w)))))
  | (pc, len, a1, a2, a3, v, .iastore) => g_iiR st (fun a i x r => g_ia 0 h[a]? (fun n f => ∃ j : Nat, (j < n ∧ n < 2147483648) ∧ i = I j ∧ K cs ss L r (h.set a (iA 0 n (upd f j x)))))
  | (pc, len, a1, a2, a3, v, .castore) => g_iiR st (fun a i x r => g_ia 1 h[a]? (fun n f => ∃ j : Nat, (j < n ∧ n < 2147483648) ∧ i = I j ∧ K cs ss L r (h.set a (iA 1 n (upd f j (vp_nar .char x))))))
  | (pc, len, a1, a2, a3, v, .aastore) => g_riR st (fun a i b r => g_ra h[a]? (fun t n f => ∃ j : Nat, (j < n ∧ n < 2147483648) ∧ i = I j ∧ g_el t b h ∧ K cs ss L r (h.set a (rA t n (va_up f j (some b))))))
  | (pc, len, a1, a2, a3, v, .new n) => cs + 1 ≤ mc ∧ ss + a2 ≤ ms ∧ K (cs + 1) (ss + a2) L (.ref h.length :: st) (h ++ [ob a1 (g_dflt a1)])
  | (pc, len, a1, a2, a3, v, .newarray t) => g_p1 st (fun x r => x = I a2 ∧ cs + 1 ≤ mc ∧ ss + a2 ≤ ms ∧ K (cs + 1) (ss + a2) L (.ref h.length :: r) (h ++ [iA a1 a2 (fun _ => I 0)]))
  | (pc, len, a1, a2, a3, v, .anewarray n) => g_p1 st (fun x r => x = I a2 ∧ cs + 1 ≤ mc ∧ ss + a2 ≤ ms ∧ K (cs + 1) (ss + a2) L (.ref h.length :: r) (h ++ [rA a1 a2 (fun _ => none)]))
  | (pc, len, a1, a2, a3, v, .invokevirtual n) => g_rc (st.drop v.toNat) (fun b r => r.length ≤ 4 ∧ 1 ≤ d ∧ (cs ≤ mc ∧ ss ≤ ms) ∧ g_ob a2 h[b]? (fun _ => Call a1 (d - 1) 0 0 (.ref b :: (st.take v.toNat).reverse) h (fun r9 h9 => G k d mc ms cs ss (pc + len) L (r9.toList ++ r) h9 Q)))
  | (pc, len, a1, a2, a3, v, .invokestatic n) => if a2 = 1 then g_cd a1 ∧ v.toNat ≤ st.length ∧ (st.drop v.toNat).length ≤ 4 ∧ d = 11 ∧ (∃ mc9 ms9, cs + mc9 ≤ mc ∧ ss + ms9 ≤ ms ∧ Call a1 (d - 1) mc9 ms9 (st.take v.toNat).reverse h (fun r9 h9 => G k d mc ms (cs + mc9) (ss + ms9) (pc + len) L (r9.toList ++ st.drop v.toNat) h9 Q)) else if a1 = 9991 then g_p1 st (fun x r => r.length ≤ 4 ∧ 1 ≤ d ∧ (cs ≤ mc ∧ ss ≤ ms) ∧ K cs ss L (.int (if 0 ≤ x then x else 0 - x) :: r) h) else if a1 = 9992 then g_l1 st (fun x r => r.length ≤ 4 ∧ 1 ≤ d ∧ (cs ≤ mc ∧ ss ≤ ms) ∧ K cs ss L (.long (if 0 < x then x else -x) :: r) h) else if a1 = 9993 then g_p2 st (fun x y r => r.length ≤ 4 ∧ 1 ≤ d ∧ (cs ≤ mc ∧ ss ≤ ms) ∧ K cs ss L (.int (if x < y then y else x) :: r) h) else if a1 = 9994 then g_p2 st (fun x y r => r.length ≤ 4 ∧ 1 ≤ d ∧ (cs ≤ mc ∧ ss ≤ ms) ∧ K cs ss L (.int (if y < x then y else x) :: r) h) else v.toNat ≤ st.length ∧ (st.drop v.toNat).length ≤ 4 ∧ 1 ≤ d ∧ (cs ≤ mc ∧ ss ≤ ms) ∧ Call a1 (d - 1) 0 0 (st.take v.toNat).reverse h (fun r9 h9 => G k d mc ms cs ss (pc + len) L (r9.toList ++ st.drop v.toNat) h9 Q)
  | (pc, len, a1, a2, a3, v, .invokespecial n) => if a1 = 9999 then 1 ≤ d ∧ st.length ≤ 4 ∧ g_pR st (fun a r => K cs ss L r h) else g_rc (st.drop v.toNat) (fun b r => r.length ≤ 4 ∧ 1 ≤ d ∧ ∃ mc9 ms9, cs + mc9 ≤ mc ∧ ss + ms9 ≤ ms ∧ Call a1 (d - 1) mc9 ms9 (.ref b :: (st.take v.toNat).reverse) h (fun r9 h9 => G k d mc ms (cs + mc9) (ss + ms9) (pc + len) L (r9.toList ++ r) h9 Q))
  | (pc, len, a1, a2, a3, v, .ireturn) => g_p1 st (fun x r => r = [] ∧ (cs ≤ mc ∧ ss ≤ ms) ∧ g_rI (g_m k).2.2.2.1 x ∧ Q (some (.int x)) h)
  | (pc, len, a1, a2, a3, v, .lreturn) => g_l1 st (fun x r => r = [] ∧ (cs ≤ mc ∧ ss ≤ ms) ∧ (g_m k).2.2.2.1 = some .long ∧ Q (some (.long x)) h)
  | (pc, len, a1, a2, a3, v, .areturn) => g_pA st (fun x r => r = [] ∧ (cs ≤ mc ∧ ss ≤ ms) ∧ (g_m k).2.2.2.1 = some (.object "VectorPens$Stroke") ∧ Q (some x) h)
  | (pc, len, a1, a2, a3, v, .return_) => st = [] ∧ (cs ≤ mc ∧ ss ≤ ms) ∧ (g_m k).2.2.2.1 = none ∧ Q none h
  | _ => False
theorem s_iload_n (k d mc ms : Nat) (Q : g_Po) (K : g_K) (pc len a1 a2 a3 : Nat) (v : Int) (i : Fin 4) (cs ss : Nat) (L : List (Option Value)) (st : List Value) (h : g_H) : g_st k d mc ms Q K (pc, len, a1, a2, a3, v, .iload_n i) cs ss L st h = (g_ldI L[i.val]? (fun x => K cs ss L (.int x :: st) h)) := rfl
theorem s_iload (k d mc ms : Nat) (Q : g_Po) (K : g_K) (pc len a1 a2 a3 : Nat) (v : Int) (i : Nat) (cs ss : Nat) (L : List (Option Value)) (st : List Value) (h : g_H) : g_st k d mc ms Q K (pc, len, a1, a2, a3, v, .iload i) cs ss L st h = (g_ldI L[i]? (fun x => K cs ss L (.int x :: st) h)) := rfl
theorem s_lload_n (k d mc ms : Nat) (Q : g_Po) (K : g_K) (pc len a1 a2 a3 : Nat) (v : Int) (i : Fin 4) (cs ss : Nat) (L : List (Option Value)) (st : List Value) (h : g_H) : g_st k d mc ms Q K (pc, len, a1, a2, a3, v, .lload_n i) cs ss L st h = (g_ldL L[i.val]? (fun x => K cs ss L (.long x :: st) h)) := rfl
theorem s_lload (k d mc ms : Nat) (Q : g_Po) (K : g_K) (pc len a1 a2 a3 : Nat) (v : Int) (i : Nat) (cs ss : Nat) (L : List (Option Value)) (st : List Value) (h : g_H) : g_st k d mc ms Q K (pc, len, a1, a2, a3, v, .lload i) cs ss L st h = (g_ldL L[i]? (fun x => K cs ss L (.long x :: st) h)) := rfl
theorem s_aload_n (k d mc ms : Nat) (Q : g_Po) (K : g_K) (pc len a1 a2 a3 : Nat) (v : Int) (i : Fin 4) (cs ss : Nat) (L : List (Option Value)) (st : List Value) (h : g_H) : g_st k d mc ms Q K (pc, len, a1, a2, a3, v, .aload_n i) cs ss L st h = (g_ldA L[i.val]? (fun v => K cs ss L (v :: st) h)) := rfl
theorem s_aload (k d mc ms : Nat) (Q : g_Po) (K : g_K) (pc len a1 a2 a3 : Nat) (v : Int) (i : Nat) (cs ss : Nat) (L : List (Option Value)) (st : List Value) (h : g_H) : g_st k d mc ms Q K (pc, len, a1, a2, a3, v, .aload i) cs ss L st h = (g_ldA L[i]? (fun v => K cs ss L (v :: st) h)) := rfl
theorem s_istore_n (k d mc ms : Nat) (Q : g_Po) (K : g_K) (pc len a1 a2 a3 : Nat) (v : Int) (i : Fin 4) (cs ss : Nat) (L : List (Option Value)) (st : List Value) (h : g_H) : g_st k d mc ms Q K (pc, len, a1, a2, a3, v, .istore_n i) cs ss L st h = (g_p1 st (fun x r => K cs ss (g_s1 L i.val (.int x)) r h)) := rfl
theorem s_istore (k d mc ms : Nat) (Q : g_Po) (K : g_K) (pc len a1 a2 a3 : Nat) (v : Int) (i : Nat) (cs ss : Nat) (L : List (Option Value)) (st : List Value) (h : g_H) : g_st k d mc ms Q K (pc, len, a1, a2, a3, v, .istore i) cs ss L st h = (g_p1 st (fun x r => K cs ss (g_s1 L i (.int x)) r h)) := rfl
theorem s_lstore_n (k d mc ms : Nat) (Q : g_Po) (K : g_K) (pc len a1 a2 a3 : Nat) (v : Int) (i : Fin 4) (cs ss : Nat) (L : List (Option Value)) (st : List Value) (h : g_H) : g_st k d mc ms Q K (pc, len, a1, a2, a3, v, .lstore_n i) cs ss L st h = (g_l1 st (fun x r => K cs ss (g_s2 L i.val (.long x)) r h)) := rfl
theorem s_lstore (k d mc ms : Nat) (Q : g_Po) (K : g_K) (pc len a1 a2 a3 : Nat) (v : Int) (i : Nat) (cs ss : Nat) (L : List (Option Value)) (st : List Value) (h : g_H) : g_st k d mc ms Q K (pc, len, a1, a2, a3, v, .lstore i) cs ss L st h = (g_l1 st (fun x r => K cs ss (g_s2 L i (.long x)) r h)) := rfl
theorem s_astore_n (k d mc ms : Nat) (Q : g_Po) (K : g_K) (pc len a1 a2 a3 : Nat) (v : Int) (i : Fin 4) (cs ss : Nat) (L : List (Option Value)) (st : List Value) (h : g_H) : g_st k d mc ms Q K (pc, len, a1, a2, a3, v, .astore_n i) cs ss L st h = (g_pA st (fun v r => K cs ss (g_s1 L i.val v) r h)) := rfl
theorem s_astore (k d mc ms : Nat) (Q : g_Po) (K : g_K) (pc len a1 a2 a3 : Nat) (v : Int) (i : Nat) (cs ss : Nat) (L : List (Option Value)) (st : List Value) (h : g_H) : g_st k d mc ms Q K (pc, len, a1, a2, a3, v, .astore i) cs ss L st h = (g_pA st (fun v r => K cs ss (g_s1 L i v) r h)) := rfl
theorem s_iinc (k d mc ms : Nat) (Q : g_Po) (K : g_K) (pc len a1 a2 a3 : Nat) (v : Int) (i : Nat) (n : Int) (cs ss : Nat) (L : List (Option Value)) (st : List Value) (h : g_H) : g_st k d mc ms Q K (pc, len, a1, a2, a3, v, .iinc i n) cs ss L st h = (g_ldI L[i]? (fun x => K cs ss (g_s1 L i (.int (x + I v))) st h)) := rfl
theorem s_iconst (k d mc ms : Nat) (Q : g_Po) (K : g_K) (pc len a1 a2 a3 : Nat) (v : Int) (n : Int) (cs ss : Nat) (L : List (Option Value)) (st : List Value) (h : g_H) : g_st k d mc ms Q K (pc, len, a1, a2, a3, v, .iconst n) cs ss L st h = (K cs ss L (.int (I v) :: st) h) := rfl
theorem s_bipush (k d mc ms : Nat) (Q : g_Po) (K : g_K) (pc len a1 a2 a3 : Nat) (v : Int) (n : Int) (cs ss : Nat) (L : List (Option Value)) (st : List Value) (h : g_H) : g_st k d mc ms Q K (pc, len, a1, a2, a3, v, .bipush n) cs ss L st h = (K cs ss L (.int (I v) :: st) h) := rfl
theorem s_sipush (k d mc ms : Nat) (Q : g_Po) (K : g_K) (pc len a1 a2 a3 : Nat) (v : Int) (n : Int) (cs ss : Nat) (L : List (Option Value)) (st : List Value) (h : g_H) : g_st k d mc ms Q K (pc, len, a1, a2, a3, v, .sipush n) cs ss L st h = (K cs ss L (.int (I v) :: st) h) := rfl
theorem s_lconst (k d mc ms : Nat) (Q : g_Po) (K : g_K) (pc len a1 a2 a3 : Nat) (v : Int) (n : Fin 2) (cs ss : Nat) (L : List (Option Value)) (st : List Value) (h : g_H) : g_st k d mc ms Q K (pc, len, a1, a2, a3, v, .lconst n) cs ss L st h = (K cs ss L (.long (J n.val) :: st) h) := rfl
theorem s_ldc (k d mc ms : Nat) (Q : g_Po) (K : g_K) (pc len a1 a2 a3 : Nat) (v : Int) (n : Nat) (cs ss : Nat) (L : List (Option Value)) (st : List Value) (h : g_H) : g_st k d mc ms Q K (pc, len, a1, a2, a3, v, .ldc n) cs ss L st h = (K cs ss L (.int (I v) :: st) h) := rfl
theorem s_ldc2_w (k d mc ms : Nat) (Q : g_Po) (K : g_K) (pc len a1 a2 a3 : Nat) (v : Int) (n : Nat) (cs ss : Nat) (L : List (Option Value)) (st : List Value) (h : g_H) : g_st k d mc ms Q K (pc, len, a1, a2, a3, v, .ldc2_w n) cs ss L st h = (K cs ss L (.long (J v) :: st) h) := rfl
theorem s_aconst_null (k d mc ms : Nat) (Q : g_Po) (K : g_K) (pc len a1 a2 a3 : Nat) (v : Int) (cs ss : Nat) (L : List (Option Value)) (st : List Value) (h : g_H) : g_st k d mc ms Q K (pc, len, a1, a2, a3, v, .aconst_null) cs ss L st h = (K cs ss L (.null :: st) h) := rfl
theorem s_iadd (k d mc ms : Nat) (Q : g_Po) (K : g_K) (pc len a1 a2 a3 : Nat) (v : Int) (cs ss : Nat) (L : List (Option Value)) (st : List Value) (h : g_H) : g_st k d mc ms Q K (pc, len, a1, a2, a3, v, .iadd) cs ss L st h = (g_p2 st (fun x y r => K cs ss L (.int (x + y) :: r) h)) := rfl
theorem s_isub (k d mc ms : Nat) (Q : g_Po) (K : g_K) (pc len a1 a2 a3 : Nat) (v : Int) (cs ss : Nat) (L : List (Option Value)) (st : List Value) (h : g_H) : g_st k d mc ms Q K (pc, len, a1, a2, a3, v, .isub) cs ss L st h = (g_p2 st (fun x y r => K cs ss L (.int (x - y) :: r) h)) := rfl
theorem s_imul (k d mc ms : Nat) (Q : g_Po) (K : g_K) (pc len a1 a2 a3 : Nat) (v : Int) (cs ss : Nat) (L : List (Option Value)) (st : List Value) (h : g_H) : g_st k d mc ms Q K (pc, len, a1, a2, a3, v, .imul) cs ss L st h = (g_p2 st (fun x y r => K cs ss L (.int (x * y) :: r) h)) := rfl
theorem s_iand (k d mc ms : Nat) (Q : g_Po) (K : g_K) (pc len a1 a2 a3 : Nat) (v : Int) (cs ss : Nat) (L : List (Option Value)) (st : List Value) (h : g_H) : g_st k d mc ms Q K (pc, len, a1, a2, a3, v, .iand) cs ss L st h = (g_p2 st (fun x y r => K cs ss L (.int (x &&& y) :: r) h)) := rfl
theorem s_ixor (k d mc ms : Nat) (Q : g_Po) (K : g_K) (pc len a1 a2 a3 : Nat) (v : Int) (cs ss : Nat) (L : List (Option Value)) (st : List Value) (h : g_H) : g_st k d mc ms Q K (pc, len, a1, a2, a3, v, .ixor) cs ss L st h = (g_p2 st (fun x y r => K cs ss L (.int (x ^^^ y) :: r) h)) := rfl
theorem s_ishr (k d mc ms : Nat) (Q : g_Po) (K : g_K) (pc len a1 a2 a3 : Nat) (v : Int) (cs ss : Nat) (L : List (Option Value)) (st : List Value) (h : g_H) : g_st k d mc ms Q K (pc, len, a1, a2, a3, v, .ishr) cs ss L st h = (g_p2 st (fun x y r => K cs ss L (.int (x >>> (y &&& 31)) :: r) h)) := rfl
theorem s_ior (k d mc ms : Nat) (Q : g_Po) (K : g_K) (pc len a1 a2 a3 : Nat) (v : Int) (cs ss : Nat) (L : List (Option Value)) (st : List Value) (h : g_H) : g_st k d mc ms Q K (pc, len, a1, a2, a3, v, .ior) cs ss L st h = (g_p2 st (fun x y r => K cs ss L (.int (x ||| y) :: r) h)) := rfl
theorem s_ishl (k d mc ms : Nat) (Q : g_Po) (K : g_K) (pc len a1 a2 a3 : Nat) (v : Int) (cs ss : Nat) (L : List (Option Value)) (st : List Value) (h : g_H) : g_st k d mc ms Q K (pc, len, a1, a2, a3, v, .ishl) cs ss L st h = (g_p2 st (fun x y r => K cs ss L (.int (x <<< (y &&& 31)) :: r) h)) := rfl
theorem s_idiv (k d mc ms : Nat) (Q : g_Po) (K : g_K) (pc len a1 a2 a3 : Nat) (v : Int) (cs ss : Nat) (L : List (Option Value)) (st : List Value) (h : g_H) : g_st k d mc ms Q K (pc, len, a1, a2, a3, v, .idiv) cs ss L st h = (g_p2 st (fun x y r => ¬ y = I 0 ∧ K cs ss L (.int (x / y) :: r) h)) := rfl
theorem s_irem (k d mc ms : Nat) (Q : g_Po) (K : g_K) (pc len a1 a2 a3 : Nat) (v : Int) (cs ss : Nat) (L : List (Option Value)) (st : List Value) (h : g_H) : g_st k d mc ms Q K (pc, len, a1, a2, a3, v, .irem) cs ss L st h = (g_p2 st (fun x y r => ¬ y = I 0 ∧ K cs ss L (.int (x - x / y * y) :: r) h)) := rfl
theorem s_ineg (k d mc ms : Nat) (Q : g_Po) (K : g_K) (pc len a1 a2 a3 : Nat) (v : Int) (cs ss : Nat) (L : List (Option Value)) (st : List Value) (h : g_H) : g_st k d mc ms Q K (pc, len, a1, a2, a3, v, .ineg) cs ss L st h = (g_p1 st (fun x r => K cs ss L (.int (-x) :: r) h)) := rfl
theorem s_i2l (k d mc ms : Nat) (Q : g_Po) (K : g_K) (pc len a1 a2 a3 : Nat) (v : Int) (cs ss : Nat) (L : List (Option Value)) (st : List Value) (h : g_H) : g_st k d mc ms Q K (pc, len, a1, a2, a3, v, .i2l) cs ss L st h = (g_p1 st (fun x r => K cs ss L (.long x.toInt64 :: r) h)) := rfl
theorem s_i2c (k d mc ms : Nat) (Q : g_Po) (K : g_K) (pc len a1 a2 a3 : Nat) (v : Int) (cs ss : Nat) (L : List (Option Value)) (st : List Value) (h : g_H) : g_st k d mc ms Q K (pc, len, a1, a2, a3, v, .i2c) cs ss L st h = (g_p1 st (fun x r => K cs ss L (.int (x.toUInt32 % 65536).toInt32 :: r) h)) := rfl
theorem s_l2i (k d mc ms : Nat) (Q : g_Po) (K : g_K) (pc len a1 a2 a3 : Nat) (v : Int) (cs ss : Nat) (L : List (Option Value)) (st : List Value) (h : g_H) : g_st k d mc ms Q K (pc, len, a1, a2, a3, v, .l2i) cs ss L st h = (g_l1 st (fun x r => K cs ss L (.int x.toInt32 :: r) h)) := rfl
theorem s_lneg (k d mc ms : Nat) (Q : g_Po) (K : g_K) (pc len a1 a2 a3 : Nat) (v : Int) (cs ss : Nat) (L : List (Option Value)) (st : List Value) (h : g_H) : g_st k d mc ms Q K (pc, len, a1, a2, a3, v, .lneg) cs ss L st h = (g_l1 st (fun x r => K cs ss L (.long (-x) :: r) h)) := rfl
theorem s_ladd (k d mc ms : Nat) (Q : g_Po) (K : g_K) (pc len a1 a2 a3 : Nat) (v : Int) (cs ss : Nat) (L : List (Option Value)) (st : List Value) (h : g_H) : g_st k d mc ms Q K (pc, len, a1, a2, a3, v, .ladd) cs ss L st h = (g_l2 st (fun x y r => K cs ss L (.long (x + y) :: r) h)) := rfl
theorem s_lsub (k d mc ms : Nat) (Q : g_Po) (K : g_K) (pc len a1 a2 a3 : Nat) (v : Int) (cs ss : Nat) (L : List (Option Value)) (st : List Value) (h : g_H) : g_st k d mc ms Q K (pc, len, a1, a2, a3, v, .lsub) cs ss L st h = (g_l2 st (fun x y r => K cs ss L (.long (x - y) :: r) h)) := rfl
theorem s_lmul (k d mc ms : Nat) (Q : g_Po) (K : g_K) (pc len a1 a2 a3 : Nat) (v : Int) (cs ss : Nat) (L : List (Option Value)) (st : List Value) (h : g_H) : g_st k d mc ms Q K (pc, len, a1, a2, a3, v, .lmul) cs ss L st h = (g_l2 st (fun x y r => K cs ss L (.long (x * y) :: r) h)) := rfl
theorem s_ldiv (k d mc ms : Nat) (Q : g_Po) (K : g_K) (pc len a1 a2 a3 : Nat) (v : Int) (cs ss : Nat) (L : List (Option Value)) (st : List Value) (h : g_H) : g_st k d mc ms Q K (pc, len, a1, a2, a3, v, .ldiv) cs ss L st h = (g_l2 st (fun x y r => ¬ y = J 0 ∧ K cs ss L (.long (x / y) :: r) h)) := rfl
theorem s_lshr (k d mc ms : Nat) (Q : g_Po) (K : g_K) (pc len a1 a2 a3 : Nat) (v : Int) (cs ss : Nat) (L : List (Option Value)) (st : List Value) (h : g_H) : g_st k d mc ms Q K (pc, len, a1, a2, a3, v, .lshr) cs ss L st h = (g_li st (fun x y r => K cs ss L (.long (x >>> (y.toInt64 &&& 63)) :: r) h)) := rfl
theorem s_lcmp (k d mc ms : Nat) (Q : g_Po) (K : g_K) (pc len a1 a2 a3 : Nat) (v : Int) (cs ss : Nat) (L : List (Option Value)) (st : List Value) (h : g_H) : g_st k d mc ms Q K (pc, len, a1, a2, a3, v, .lcmp) cs ss L st h = (g_l2 st (fun x y r => K cs ss L (.int (lg_cmp x y) :: r) h)) := rfl
theorem s_dup (k d mc ms : Nat) (Q : g_Po) (K : g_K) (pc len a1 a2 a3 : Nat) (v : Int) (cs ss : Nat) (L : List (Option Value)) (st : List Value) (h : g_H) : g_st k d mc ms Q K (pc, len, a1, a2, a3, v, .dup) cs ss L st h = (g_p1v st (fun v r => K cs ss L (v :: v :: r) h)) := rfl
theorem s_pop (k d mc ms : Nat) (Q : g_Po) (K : g_K) (pc len a1 a2 a3 : Nat) (v : Int) (cs ss : Nat) (L : List (Option Value)) (st : List Value) (h : g_H) : g_st k d mc ms Q K (pc, len, a1, a2, a3, v, .pop) cs ss L st h = (g_p1v st (fun v r => K cs ss L r h)) := rfl
theorem s_dup2 (k d mc ms : Nat) (Q : g_Po) (K : g_K) (pc len a1 a2 a3 : Nat) (v : Int) (cs ss : Nat) (L : List (Option Value)) (st : List Value) (h : g_H) : g_st k d mc ms Q K (pc, len, a1, a2, a3, v, .dup2) cs ss L st h = (g_p2v st (fun v w r => K cs ss L (v :: w :: v :: w :: r) h)) := rfl
theorem s_goto (k d mc ms : Nat) (Q : g_Po) (K : g_K) (pc len a1 a2 a3 : Nat) (v : Int) (off : Int) (cs ss : Nat) (L : List (Option Value)) (st : List Value) (h : g_H) : g_st k d mc ms Q K (pc, len, a1, a2, a3, v, .goto off) cs ss L st h = (G k d mc ms cs ss a1 L st h Q) := rfl
theorem s_ifCond_eq (k d mc ms : Nat) (Q : g_Po) (K : g_K) (pc len a1 a2 a3 : Nat) (v : Int) (off : Int) (cs ss : Nat) (L : List (Option Value)) (st : List Value) (h : g_H) : g_st k d mc ms Q K (pc, len, a1, a2, a3, v, .ifCond .eq off) cs ss L st h = (g_p1 st (fun x r => (x = I 0 → G k d mc ms cs ss a1 L r h Q) ∧ (¬ x = I 0 → G k d mc ms cs ss (pc + len) L r h Q))) := rfl
theorem s_if_icmp_eq (k d mc ms : Nat) (Q : g_Po) (K : g_K) (pc len a1 a2 a3 : Nat) (v : Int) (off : Int) (cs ss : Nat) (L : List (Option Value)) (st : List Value) (h : g_H) : g_st k d mc ms Q K (pc, len, a1, a2, a3, v, .if_icmp .eq off) cs ss L st h = (g_p2 st (fun x y r => (x = y → G k d mc ms cs ss a1 L r h Q) ∧ (¬ x = y → G k d mc ms cs ss (pc + len) L r h Q))) := rfl
theorem s_ifCond_ne (k d mc ms : Nat) (Q : g_Po) (K : g_K) (pc len a1 a2 a3 : Nat) (v : Int) (off : Int) (cs ss : Nat) (L : List (Option Value)) (st : List Value) (h : g_H) : g_st k d mc ms Q K (pc, len, a1, a2, a3, v, .ifCond .ne off) cs ss L st h = (g_p1 st (fun x r => (¬ x = I 0 → G k d mc ms cs ss a1 L r h Q) ∧ (x = I 0 → G k d mc ms cs ss (pc + len) L r h Q))) := rfl
theorem s_if_icmp_ne (k d mc ms : Nat) (Q : g_Po) (K : g_K) (pc len a1 a2 a3 : Nat) (v : Int) (off : Int) (cs ss : Nat) (L : List (Option Value)) (st : List Value) (h : g_H) : g_st k d mc ms Q K (pc, len, a1, a2, a3, v, .if_icmp .ne off) cs ss L st h = (g_p2 st (fun x y r => (¬ x = y → G k d mc ms cs ss a1 L r h Q) ∧ (x = y → G k d mc ms cs ss (pc + len) L r h Q))) := rfl
theorem s_ifCond_lt (k d mc ms : Nat) (Q : g_Po) (K : g_K) (pc len a1 a2 a3 : Nat) (v : Int) (off : Int) (cs ss : Nat) (L : List (Option Value)) (st : List Value) (h : g_H) : g_st k d mc ms Q K (pc, len, a1, a2, a3, v, .ifCond .lt off) cs ss L st h = (g_p1 st (fun x r => (x < I 0 → G k d mc ms cs ss a1 L r h Q) ∧ (¬ x < I 0 → G k d mc ms cs ss (pc + len) L r h Q))) := rfl
theorem s_if_icmp_lt (k d mc ms : Nat) (Q : g_Po) (K : g_K) (pc len a1 a2 a3 : Nat) (v : Int) (off : Int) (cs ss : Nat) (L : List (Option Value)) (st : List Value) (h : g_H) : g_st k d mc ms Q K (pc, len, a1, a2, a3, v, .if_icmp .lt off) cs ss L st h = (g_p2 st (fun x y r => (x < y → G k d mc ms cs ss a1 L r h Q) ∧ (¬ x < y → G k d mc ms cs ss (pc + len) L r h Q))) := rfl
theorem s_ifCond_ge (k d mc ms : Nat) (Q : g_Po) (K : g_K) (pc len a1 a2 a3 : Nat) (v : Int) (off : Int) (cs ss : Nat) (L : List (Option Value)) (st : List Value) (h : g_H) : g_st k d mc ms Q K (pc, len, a1, a2, a3, v, .ifCond .ge off) cs ss L st h = (g_p1 st (fun x r => (I 0 ≤ x → G k d mc ms cs ss a1 L r h Q) ∧ (¬ I 0 ≤ x → G k d mc ms cs ss (pc + len) L r h Q))) := rfl
theorem s_if_icmp_ge (k d mc ms : Nat) (Q : g_Po) (K : g_K) (pc len a1 a2 a3 : Nat) (v : Int) (off : Int) (cs ss : Nat) (L : List (Option Value)) (st : List Value) (h : g_H) : g_st k d mc ms Q K (pc, len, a1, a2, a3, v, .if_icmp .ge off) cs ss L st h = (g_p2 st (fun x y r => (y ≤ x → G k d mc ms cs ss a1 L r h Q) ∧ (¬ y ≤ x → G k d mc ms cs ss (pc + len) L r h Q))) := rfl
theorem s_ifCond_gt (k d mc ms : Nat) (Q : g_Po) (K : g_K) (pc len a1 a2 a3 : Nat) (v : Int) (off : Int) (cs ss : Nat) (L : List (Option Value)) (st : List Value) (h : g_H) : g_st k d mc ms Q K (pc, len, a1, a2, a3, v, .ifCond .gt off) cs ss L st h = (g_p1 st (fun x r => (I 0 < x → G k d mc ms cs ss a1 L r h Q) ∧ (¬ I 0 < x → G k d mc ms cs ss (pc + len) L r h Q))) := rfl
theorem s_if_icmp_gt (k d mc ms : Nat) (Q : g_Po) (K : g_K) (pc len a1 a2 a3 : Nat) (v : Int) (off : Int) (cs ss : Nat) (L : List (Option Value)) (st : List Value) (h : g_H) : g_st k d mc ms Q K (pc, len, a1, a2, a3, v, .if_icmp .gt off) cs ss L st h = (g_p2 st (fun x y r => (y < x → G k d mc ms cs ss a1 L r h Q) ∧ (¬ y < x → G k d mc ms cs ss (pc + len) L r h Q))) := rfl
theorem s_ifCond_le (k d mc ms : Nat) (Q : g_Po) (K : g_K) (pc len a1 a2 a3 : Nat) (v : Int) (off : Int) (cs ss : Nat) (L : List (Option Value)) (st : List Value) (h : g_H) : g_st k d mc ms Q K (pc, len, a1, a2, a3, v, .ifCond .le off) cs ss L st h = (g_p1 st (fun x r => (x ≤ I 0 → G k d mc ms cs ss a1 L r h Q) ∧ (¬ x ≤ I 0 → G k d mc ms cs ss (pc + len) L r h Q))) := rfl
theorem s_if_icmp_le (k d mc ms : Nat) (Q : g_Po) (K : g_K) (pc len a1 a2 a3 : Nat) (v : Int) (off : Int) (cs ss : Nat) (L : List (Option Value)) (st : List Value) (h : g_H) : g_st k d mc ms Q K (pc, len, a1, a2, a3, v, .if_icmp .le off) cs ss L st h = (g_p2 st (fun x y r => (x ≤ y → G k d mc ms cs ss a1 L r h Q) ∧ (¬ x ≤ y → G k d mc ms cs ss (pc + len) L r h Q))) := rfl
theorem s_ifnull (k d mc ms : Nat) (Q : g_Po) (K : g_K) (pc len a1 a2 a3 : Nat) (v : Int) (off : Int) (cs ss : Nat) (L : List (Option Value)) (st : List Value) (h : g_H) : g_st k d mc ms Q K (pc, len, a1, a2, a3, v, .ifnull off) cs ss L st h = (g_pA st (fun v r => (v = .null → G k d mc ms cs ss a1 L r h Q) ∧ (¬ v = .null → G k d mc ms cs ss (pc + len) L r h Q))) := rfl
theorem s_ifnonnull (k d mc ms : Nat) (Q : g_Po) (K : g_K) (pc len a1 a2 a3 : Nat) (v : Int) (off : Int) (cs ss : Nat) (L : List (Option Value)) (st : List Value) (h : g_H) : g_st k d mc ms Q K (pc, len, a1, a2, a3, v, .ifnonnull off) cs ss L st h = (g_pA st (fun v r => (¬ v = .null → G k d mc ms cs ss a1 L r h Q) ∧ (v = .null → G k d mc ms cs ss (pc + len) L r h Q))) := rfl
theorem s_tableswitch (k d mc ms : Nat) (Q : g_Po) (K : g_K) (pc len a1 a2 a3 : Nat) (v : Int) (dflt : Int) (lo : Int) (hi : Int) (offs : Array Int) (cs ss : Nat) (L : List (Option Value)) (st : List Value) (h : g_H) : g_st k d mc ms Q K (pc, len, a1, a2, a3, v, .tableswitch dflt lo hi offs) cs ss L st h = (g_p1 st (fun x r => ((x.toInt < lo ∨ hi < x.toInt) → G k d mc ms cs ss ((pc : Int) + dflt).toNat L r h Q) ∧ ∀ (j : Nat) (off : Int), offs[j]? = some off → x.toInt = lo + j → x.toInt ≤ hi → G k d mc ms cs ss ((pc : Int) + off).toNat L r h Q)) := rfl
theorem s_getfield (k d mc ms : Nat) (Q : g_Po) (K : g_K) (pc len a1 a2 a3 : Nat) (v : Int) (n : Nat) (cs ss : Nat) (L : List (Option Value)) (st : List Value) (h : g_H) : g_st k d mc ms Q K (pc, len, a1, a2, a3, v, .getfield n) cs ss L st h = (g_pR st (fun a r => g_ob a1 h[a]? (fun fs => g_gt fs[a2]? (fun v => K cs ss L (v :: r) h)))) := rfl
theorem s_iaload (k d mc ms : Nat) (Q : g_Po) (K : g_K) (pc len a1 a2 a3 : Nat) (v : Int) (cs ss : Nat) (L : List (Option Value)) (st : List Value) (h : g_H) : g_st k d mc ms Q K (pc, len, a1, a2, a3, v, .iaload) cs ss L st h = (g_iR st (fun a i r => g_ia 0 h[a]? (fun n f => ∃ j : Nat, (j < n ∧ n < 2147483648) ∧ i = I j ∧ K cs ss L (.int (f j) :: r) h))) := rfl
theorem s_caload (k d mc ms : Nat) (Q : g_Po) (K : g_K) (pc len a1 a2 a3 : Nat) (v : Int) (cs ss : Nat) (L : List (Option Value)) (st : List Value) (h : g_H) : g_st k d mc ms Q K (pc, len, a1, a2, a3, v, .caload) cs ss L st h = (g_iR st (fun a i r => g_ia 1 h[a]? (fun n f => ∃ j : Nat, (j < n ∧ n < 2147483648) ∧ i = I j ∧ K cs ss L (.int (f j) :: r) h))) := rfl
theorem s_aaload (k d mc ms : Nat) (Q : g_Po) (K : g_K) (pc len a1 a2 a3 : Nat) (v : Int) (cs ss : Nat) (L : List (Option Value)) (st : List Value) (h : g_H) : g_st k d mc ms Q K (pc, len, a1, a2, a3, v, .aaload) cs ss L st h = (g_iR st (fun a i r => g_ra h[a]? (fun t n f => (t = 2 ∨ t = 3) ∧ ∃ j : Nat, (j < n ∧ n < 2147483648) ∧ i = I j ∧ K cs ss L (va_rf (f j) :: r) h))) := rfl
theorem s_arraylength (k d mc ms : Nat) (Q : g_Po) (K : g_K) (pc len a1 a2 a3 : Nat) (v : Int) (cs ss : Nat) (L : List (Option Value)) (st : List Value) (h : g_H) : g_st k d mc ms Q K (pc, len, a1, a2, a3, v, .arraylength) cs ss L st h = (g_pR st (fun a r => g_al h[a]? (fun n => K cs ss L (.int (I n) :: r) h))) := rfl
theorem s_putfield (k d mc ms : Nat) (Q : g_Po) (K : g_K) (pc len a1 a2 a3 : Nat) (v : Int) (n : Nat) (cs ss : Nat) (L : List (Option Value)) (st : List Value) (h : g_H) : g_st k d mc ms Q K (pc, len, a1, a2, a3, v, .putfield n) cs ss L st h = (g_pv v st (fun w a r => g_ob a1 h[a]? (fun fs => a2 < fs.length ∧ K cs ss L r (h.set a (ob a1 (fs.set a2 w)))))) := rfl
theorem s_iastore (k d mc ms : Nat) (Q : g_Po) (K : g_K) (pc len a1 a2 a3 : Nat) (v : Int) (cs ss : Nat) (L : List (Option Value)) (st : List Value) (h : g_H) : g_st k d mc ms Q K (pc, len, a1, a2, a3, v, .iastore) cs ss L st h = (g_iiR st (fun a i x r => g_ia 0 h[a]? (fun n f => ∃ j : Nat, (j < n ∧ n < 2147483648) ∧ i = I j ∧ K cs ss L r (h.set a (iA 0 n (upd f j x)))))) := rfl
theorem s_castore (k d mc ms : Nat) (Q : g_Po) (K : g_K) (pc len a1 a2 a3 : Nat) (v : Int) (cs ss : Nat) (L : List (Option Value)) (st : List Value) (h : g_H) : g_st k d mc ms Q K (pc, len, a1, a2, a3, v, .castore) cs ss L st h = (g_iiR st (fun a i x r => g_ia 1 h[a]? (fun n f => ∃ j : Nat, (j < n ∧ n < 2147483648) ∧ i = I j ∧ K cs ss L r (h.set a (iA 1 n (upd f j (vp_nar .char x))))))) := rfl
theorem s_aastore (k d mc ms : Nat) (Q : g_Po) (K : g_K) (pc len a1 a2 a3 : Nat) (v : Int) (cs ss : Nat) (L : List (Option Value)) (st : List Value) (h : g_H) : g_st k d mc ms Q K (pc, len, a1, a2, a3, v, .aastore) cs ss L st h = (g_riR st (fun a i b r => g_ra h[a]? (fun t n f => ∃ j : Nat, (j < n ∧ n < 2147483648) ∧ i = I j ∧ g_el t b h ∧ K cs ss L r (h.set a (rA t n (va_up f j (some b))))))) := rfl
theorem s_new (k d mc ms : Nat) (Q : g_Po) (K : g_K) (pc len a1 a2 a3 : Nat) (v : Int) (n : Nat) (cs ss : Nat) (L : List (Option Value)) (st : List Value) (h : g_H) : g_st k d mc ms Q K (pc, len, a1, a2, a3, v, .new n) cs ss L st h = (cs + 1 ≤ mc ∧ ss + a2 ≤ ms ∧ K (cs + 1) (ss + a2) L (.ref h.length :: st) (h ++ [ob a1 (g_dflt a1)])) := rfl
theorem s_newarray (k d mc ms : Nat) (Q : g_Po) (K : g_K) (pc len a1 a2 a3 : Nat) (v : Int) (t : ArrayType) (cs ss : Nat) (L : List (Option Value)) (st : List Value) (h : g_H) : g_st k d mc ms Q K (pc, len, a1, a2, a3, v, .newarray t) cs ss L st h = (g_p1 st (fun x r => x = I a2 ∧ cs + 1 ≤ mc ∧ ss + a2 ≤ ms ∧ K (cs + 1) (ss + a2) L (.ref h.length :: r) (h ++ [iA a1 a2 (fun _ => I 0)]))) := rfl
theorem s_anewarray (k d mc ms : Nat) (Q : g_Po) (K : g_K) (pc len a1 a2 a3 : Nat) (v : Int) (n : Nat) (cs ss : Nat) (L : List (Option Value)) (st : List Value) (h : g_H) : g_st k d mc ms Q K (pc, len, a1, a2, a3, v, .anewarray n) cs ss L st h = (g_p1 st (fun x r => x = I a2 ∧ cs + 1 ≤ mc ∧ ss + a2 ≤ ms ∧ K (cs + 1) (ss + a2) L (.ref h.length :: r) (h ++ [rA a1 a2 (fun _ => none)]))) := rfl
theorem s_invokevirtual (k d mc ms : Nat) (Q : g_Po) (K : g_K) (pc len a1 a2 a3 : Nat) (v : Int) (n : Nat) (cs ss : Nat) (L : List (Option Value)) (st : List Value) (h : g_H) : g_st k d mc ms Q K (pc, len, a1, a2, a3, v, .invokevirtual n) cs ss L st h = (g_rc (st.drop v.toNat) (fun b r => r.length ≤ 4 ∧ 1 ≤ d ∧ (cs ≤ mc ∧ ss ≤ ms) ∧ g_ob a2 h[b]? (fun _ => Call a1 (d - 1) 0 0 (.ref b :: (st.take v.toNat).reverse) h (fun r9 h9 => G k d mc ms cs ss (pc + len) L (r9.toList ++ r) h9 Q)))) := rfl
theorem s_invokestatic (k d mc ms : Nat) (Q : g_Po) (K : g_K) (pc len a1 a2 a3 : Nat) (v : Int) (n : Nat) (cs ss : Nat) (L : List (Option Value)) (st : List Value) (h : g_H) : g_st k d mc ms Q K (pc, len, a1, a2, a3, v, .invokestatic n) cs ss L st h = (if a2 = 1 then g_cd a1 ∧ v.toNat ≤ st.length ∧ (st.drop v.toNat).length ≤ 4 ∧ d = 11 ∧ (∃ mc9 ms9, cs + mc9 ≤ mc ∧ ss + ms9 ≤ ms ∧ Call a1 (d - 1) mc9 ms9 (st.take v.toNat).reverse h (fun r9 h9 => G k d mc ms (cs + mc9) (ss + ms9) (pc + len) L (r9.toList ++ st.drop v.toNat) h9 Q)) else if a1 = 9991 then g_p1 st (fun x r => r.length ≤ 4 ∧ 1 ≤ d ∧ (cs ≤ mc ∧ ss ≤ ms) ∧ K cs ss L (.int (if 0 ≤ x then x else 0 - x) :: r) h) else if a1 = 9992 then g_l1 st (fun x r => r.length ≤ 4 ∧ 1 ≤ d ∧ (cs ≤ mc ∧ ss ≤ ms) ∧ K cs ss L (.long (if 0 < x then x else -x) :: r) h) else if a1 = 9993 then g_p2 st (fun x y r => r.length ≤ 4 ∧ 1 ≤ d ∧ (cs ≤ mc ∧ ss ≤ ms) ∧ K cs ss L (.int (if x < y then y else x) :: r) h) else if a1 = 9994 then g_p2 st (fun x y r => r.length ≤ 4 ∧ 1 ≤ d ∧ (cs ≤ mc ∧ ss ≤ ms) ∧ K cs ss L (.int (if y < x then y else x) :: r) h) else v.toNat ≤ st.length ∧ (st.drop v.toNat).length ≤ 4 ∧ 1 ≤ d ∧ (cs ≤ mc ∧ ss ≤ ms) ∧ Call a1 (d - 1) 0 0 (st.take v.toNat).reverse h (fun r9 h9 => G k d mc ms cs ss (pc + len) L (r9.toList ++ st.drop v.toNat) h9 Q)) := rfl
theorem s_invokespecial (k d mc ms : Nat) (Q : g_Po) (K : g_K) (pc len a1 a2 a3 : Nat) (v : Int) (n : Nat) (cs ss : Nat) (L : List (Option Value)) (st : List Value) (h : g_H) : g_st k d mc ms Q K (pc, len, a1, a2, a3, v, .invokespecial n) cs ss L st h = (if a1 = 9999 then 1 ≤ d ∧ st.length ≤ 4 ∧ g_pR st (fun a r => K cs ss L r h) else g_rc (st.drop v.toNat) (fun b r => r.length ≤ 4 ∧ 1 ≤ d ∧ ∃ mc9 ms9, cs + mc9 ≤ mc ∧ ss + ms9 ≤ ms ∧ Call a1 (d - 1) mc9 ms9 (.ref b :: (st.take v.toNat).reverse) h (fun r9 h9 => G k d mc ms (cs + mc9) (ss + ms9) (pc + len) L (r9.toList ++ r) h9 Q))) := rfl
theorem s_ireturn (k d mc ms : Nat) (Q : g_Po) (K : g_K) (pc len a1 a2 a3 : Nat) (v : Int) (cs ss : Nat) (L : List (Option Value)) (st : List Value) (h : g_H) : g_st k d mc ms Q K (pc, len, a1, a2, a3, v, .ireturn) cs ss L st h = (g_p1 st (fun x r => r = [] ∧ (cs ≤ mc ∧ ss ≤ ms) ∧ g_rI (g_m k).2.2.2.1 x ∧ Q (some (.int x)) h)) := rfl
theorem s_lreturn (k d mc ms : Nat) (Q : g_Po) (K : g_K) (pc len a1 a2 a3 : Nat) (v : Int) (cs ss : Nat) (L : List (Option Value)) (st : List Value) (h : g_H) : g_st k d mc ms Q K (pc, len, a1, a2, a3, v, .lreturn) cs ss L st h = (g_l1 st (fun x r => r = [] ∧ (cs ≤ mc ∧ ss ≤ ms) ∧ (g_m k).2.2.2.1 = some .long ∧ Q (some (.long x)) h)) := rfl
theorem s_areturn (k d mc ms : Nat) (Q : g_Po) (K : g_K) (pc len a1 a2 a3 : Nat) (v : Int) (cs ss : Nat) (L : List (Option Value)) (st : List Value) (h : g_H) : g_st k d mc ms Q K (pc, len, a1, a2, a3, v, .areturn) cs ss L st h = (g_pA st (fun x r => r = [] ∧ (cs ≤ mc ∧ ss ≤ ms) ∧ (g_m k).2.2.2.1 = some (.object "VectorPens$Stroke") ∧ Q (some x) h)) := rfl
theorem s_return_ (k d mc ms : Nat) (Q : g_Po) (K : g_K) (pc len a1 a2 a3 : Nat) (v : Int) (cs ss : Nat) (L : List (Option Value)) (st : List Value) (h : g_H) : g_st k d mc ms Q K (pc, len, a1, a2, a3, v, .return_) cs ss L st h = (st = [] ∧ (cs ≤ mc ∧ ss ≤ ms) ∧ (g_m k).2.2.2.1 = none ∧ Q none h) := rfl
theorem g_ok_of {k : Nat} {q : g_E} (h : g_okB k q = true) : g_ok k q := by
  obtain ⟨pc, len, a1, a2, a3, v, ins⟩ := q
  cases ins <;> first | (simp only [g_okB, decide_eq_true_eq] at h; exact h) | trivial
set_option maxHeartbeats 8000000 in
theorem g_st_sound {k d mc ms : Nat} {Q : g_Po} {K : g_K} {pc len a1 a2 a3 : Nat} {v : Int} {ins : Instr} {cs ss : Nat} {L : List (Option Value)} {st : List Value} {h : g_H}
    (hd : decode (g_m k).2.1 pc = .ok (ins, len)) (hlen : len = g_len len ins) (hck : g_ok k (pc, len, a1, a2, a3, v, ins)) (hK : ∀ (cs ss : Nat) (L : List (Option Value)) (st : List Value) (h : g_H), K cs ss L st h → G k d mc ms cs ss (pc + len) L st h Q)
    (hw : g_st k d mc ms Q K (pc, len, a1, a2, a3, v, ins) cs ss L st h) : G k d mc ms cs ss pc L st h Q := by
  intro p l e s m args below meth c B D cA H locs ls hC hH hS hL
  obtain ⟨hx, hb, hml, hr, hown, hts, hlk, hnm, hKK, hBs⟩ := id hC
  have hKk := hKK.1
  cases ins with
  | iload_n i =>
    rw [s_iload_n] at hw
    have hlen : len = 1 := hlen
    subst hlen
    unfold g_ldI at hw; split at hw
    · next x hx9 => exact lv_iload_n hx hb hd rfl (hL.2.2 _ _ hx9) (hK _ _ _ _ _ hw p l e s m args below meth c B D cA H locs ls hC hH hS hL)
    · exact hw.elim
  | iload i =>
    rw [s_iload] at hw
    have hlen : len = 2 := hlen
    subst hlen
    unfold g_ldI at hw; split at hw
    · next x hx9 => exact lv_iload hx hb hd (hL.2.2 _ _ hx9) (hK _ _ _ _ _ hw p l e s m args below meth c B D cA H locs ls hC hH hS hL)
    · exact hw.elim
  | lload_n i =>
    rw [s_lload_n] at hw
    have hlen : len = 1 := hlen
    subst hlen
    unfold g_ldL at hw; split at hw
    · next x hx9 => exact lv_lload_n hx hb hd rfl (hL.2.2 _ _ hx9) (hK _ _ _ _ _ hw p l e s m args below meth c B D cA H locs ls hC hH hS hL)
    · exact hw.elim
  | lload i =>
    rw [s_lload] at hw
    have hlen : len = 2 := hlen
    subst hlen
    unfold g_ldL at hw; split at hw
    · next x hx9 => exact lv_lload hx hb hd (hL.2.2 _ _ hx9) (hK _ _ _ _ _ hw p l e s m args below meth c B D cA H locs ls hC hH hS hL)
    · exact hw.elim
  | aload_n i =>
    rw [s_aload_n] at hw
    have hlen : len = 1 := hlen
    subst hlen
    unfold g_ldA at hw; split at hw
    · next x hx9 => exact lv_aload_n hx hb hd rfl (hL.2.2 _ _ hx9) (hK _ _ _ _ _ hw p l e s m args below meth c B D cA H locs ls hC hH hS hL)
    · next hx9 => exact lv_aload_nN hx hb hd rfl (hL.2.2 _ _ hx9) (hK _ _ _ _ _ hw p l e s m args below meth c B D cA H locs ls hC hH hS hL)
    · next x hx9 => exact lv_aload_n hx hb hd rfl (hL.2.2 _ _ hx9) (hK _ _ _ _ _ hw p l e s m args below meth c B D cA H locs ls hC hH hS hL)
    · exact hw.elim
  | aload i =>
    rw [s_aload] at hw
    have hlen : len = 2 := hlen
    subst hlen
    unfold g_ldA at hw; split at hw
    · next x hx9 => exact lv_aload hx hb hd (hL.2.2 _ _ hx9) (hK _ _ _ _ _ hw p l e s m args below meth c B D cA H locs ls hC hH hS hL)
    · next hx9 => exact lv_aloadN hx hb hd (hL.2.2 _ _ hx9) (hK _ _ _ _ _ hw p l e s m args below meth c B D cA H locs ls hC hH hS hL)
    · next x hx9 => exact lv_aload hx hb hd (hL.2.2 _ _ hx9) (hK _ _ _ _ _ hw p l e s m args below meth c B D cA H locs ls hC hH hS hL)
    · exact hw.elim
  | istore_n i =>
    have hck2 : i.val < (g_m k).2.2.1 := hck
    rw [s_istore_n] at hw
    have hlen : len = 1 := hlen
    subst hlen
    unfold g_p1 at hw; split at hw
    · next x r => exact lv_istore_n hx hb hd rfl hL.has hck2 rfl (fun ls' hl' => hK _ _ _ _ _ hw p l e s m args below meth c B D cA H locs ls' hC hH hS (g_LR.s1 hl'))
    · exact hw.elim
  | istore i =>
    have hck2 : i < (g_m k).2.2.1 := hck
    rw [s_istore] at hw
    have hlen : len = 2 := hlen
    subst hlen
    unfold g_p1 at hw; split at hw
    · next x r => exact lv_istore hx hb hd hL.has hck2 rfl (fun ls' hl' => hK _ _ _ _ _ hw p l e s m args below meth c B D cA H locs ls' hC hH hS (g_LR.s1 hl'))
    · exact hw.elim
  | lstore_n i =>
    have hck2 : i.val + 1 < (g_m k).2.2.1 := hck
    rw [s_lstore_n] at hw
    have hlen : len = 1 := hlen
    subst hlen
    unfold g_l1 at hw; split at hw
    · next x r => exact lv_lstore_n hx hb hd rfl hL.has hck2 rfl (fun ls' hl' => hK _ _ _ _ _ hw p l e s m args below meth c B D cA H locs ls' hC hH hS (g_LR.s2 hl'))
    · exact hw.elim
  | lstore i =>
    have hck2 : i + 1 < (g_m k).2.2.1 := hck
    rw [s_lstore] at hw
    have hlen : len = 2 := hlen
    subst hlen
    unfold g_l1 at hw; split at hw
    · next x r => exact lv_lstore hx hb hd hL.has hck2 rfl (fun ls' hl' => hK _ _ _ _ _ hw p l e s m args below meth c B D cA H locs ls' hC hH hS (g_LR.s2 hl'))
    · exact hw.elim
  | astore_n i =>
    have hck2 : i.val < (g_m k).2.2.1 := hck
    rw [s_astore_n] at hw
    have hlen : len = 1 := hlen
    subst hlen
    unfold g_pA at hw; split at hw
    · next x r => exact lv_astore_n hx hb hd rfl hL.has hck2 rfl (fun ls' hl' => hK _ _ _ _ _ hw p l e s m args below meth c B D cA H locs ls' hC hH hS (g_LR.s1 hl'))
    · next r => exact lv_astore_nN hx hb hd rfl hL.has hck2 rfl (fun ls' hl' => hK _ _ _ _ _ hw p l e s m args below meth c B D cA H locs ls' hC hH hS (g_LR.s1 hl'))
    · exact hw.elim
  | astore i =>
    have hck2 : i < (g_m k).2.2.1 := hck
    rw [s_astore] at hw
    have hlen : len = 2 := hlen
    subst hlen
    unfold g_pA at hw; split at hw
    · next x r => exact lv_astore hx hb hd hL.has hck2 rfl (fun ls' hl' => hK _ _ _ _ _ hw p l e s m args below meth c B D cA H locs ls' hC hH hS (g_LR.s1 hl'))
    · next r => exact lv_astoreN hx hb hd hL.has hck2 rfl (fun ls' hl' => hK _ _ _ _ _ hw p l e s m args below meth c B D cA H locs ls' hC hH hS (g_LR.s1 hl'))
    · exact hw.elim
  | iinc i n =>
    have hck2 : i < (g_m k).2.2.1 ∧ n = v := hck
    rw [s_iinc] at hw
    have hlen : len = 3 := hlen
    subst hlen
    unfold g_ldI at hw; split at hw
    · next x hx9 =>
      obtain ⟨k9, hk9⟩ := List.getElem?_of_mem (g_ps_mem (B := B) hx9)
      exact lv_iinc hx hb hd hL.has hk9 (by rw [hck2.2]) hck2.1 rfl (fun ls' hl' => hK _ _ _ _ _ hw p l e s m args below meth c B D cA H locs ls' hC hH hS (g_LR.s1 (v := .int (x + Int32.ofInt v)) hl'))
    · exact hw.elim
  | iconst n =>
    have hck2 : Int32.ofInt n = Int32.ofInt v := hck
    rw [s_iconst] at hw
    have hlen : len = 1 := hlen
    subst hlen
    exact lv_iconst hx hb hd hck2 (hK _ _ _ _ _ hw p l e s m args below meth c B D cA H locs ls hC hH hS hL)
  | bipush n =>
    have hck2 : (Int8.ofInt n).toInt32 = Int32.ofInt v := hck
    rw [s_bipush] at hw
    have hlen : len = 2 := hlen
    subst hlen
    exact lv_bipush hx hb hd hck2 (hK _ _ _ _ _ hw p l e s m args below meth c B D cA H locs ls hC hH hS hL)
  | sipush n =>
    have hck2 : (Int16.ofInt n).toInt32 = Int32.ofInt v := hck
    rw [s_sipush] at hw
    have hlen : len = 3 := hlen
    subst hlen
    exact lv_sipush hx hb hd hck2 (hK _ _ _ _ _ hw p l e s m args below meth c B D cA H locs ls hC hH hS hL)
  | lconst n =>
    rw [s_lconst] at hw
    have hlen : len = 1 := hlen
    subst hlen
    exact lv_lconst hx hb hd rfl (hK _ _ _ _ _ hw p l e s m args below meth c B D cA H locs ls hC hH hS hL)
  | ldc n =>
    have hck2 : g_w a3 = some (Cond.constant (g_m k).1.cls n (Int32.ofInt v)) := hck
    rw [s_ldc] at hw
    have hlen : len = 2 := hlen
    subst hlen
    exact lv_ldc hx hb hown (hts _ (g_wm hck2)) hd (hK _ _ _ _ _ hw p l e s m args below meth c B D cA H locs ls hC hH hS hL)
  | ldc2_w n =>
    have hck2 : g_w a3 = some (Cond.constantLong (g_m k).1.cls n (Int64.ofInt v)) := hck
    rw [s_ldc2_w] at hw
    have hlen : len = 3 := hlen
    subst hlen
    exact lv_ldc2 hx hb hown (hts _ (g_wm hck2)) hd (hK _ _ _ _ _ hw p l e s m args below meth c B D cA H locs ls hC hH hS hL)
  | aconst_null =>
    rw [s_aconst_null] at hw
    have hlen : len = 1 := hlen
    subst hlen
    exact lv_null hx hb hd (hK _ _ _ _ _ hw p l e s m args below meth c B D cA H locs ls hC hH hS hL)
  | iadd =>
    rw [s_iadd] at hw
    have hlen : len = 1 := hlen
    subst hlen
    unfold g_p2 at hw; split at hw
    · exact lv_iadd hx hb hd (hK _ _ _ _ _ hw p l e s m args below meth c B D cA H locs ls hC hH hS hL)
    · exact hw.elim
  | isub =>
    rw [s_isub] at hw
    have hlen : len = 1 := hlen
    subst hlen
    unfold g_p2 at hw; split at hw
    · exact lv_isub hx hb hd (hK _ _ _ _ _ hw p l e s m args below meth c B D cA H locs ls hC hH hS hL)
    · exact hw.elim
  | imul =>
    rw [s_imul] at hw
    have hlen : len = 1 := hlen
    subst hlen
    unfold g_p2 at hw; split at hw
    · exact lv_imul hx hb hd (hK _ _ _ _ _ hw p l e s m args below meth c B D cA H locs ls hC hH hS hL)
    · exact hw.elim
  | iand =>
    rw [s_iand] at hw
    have hlen : len = 1 := hlen
    subst hlen
    unfold g_p2 at hw; split at hw
    · exact lv_iand hx hb hd (hK _ _ _ _ _ hw p l e s m args below meth c B D cA H locs ls hC hH hS hL)
    · exact hw.elim
  | ixor =>
    rw [s_ixor] at hw
    have hlen : len = 1 := hlen
    subst hlen
    unfold g_p2 at hw; split at hw
    · exact lv_ixor hx hb hd (hK _ _ _ _ _ hw p l e s m args below meth c B D cA H locs ls hC hH hS hL)
    · exact hw.elim
  | ishr =>
    rw [s_ishr] at hw
    have hlen : len = 1 := hlen
    subst hlen
    unfold g_p2 at hw; split at hw
    · exact lv_ishr hx hb hd (hK _ _ _ _ _ hw p l e s m args below meth c B D cA H locs ls hC hH hS hL)
    · exact hw.elim
  | ior =>
    rw [s_ior] at hw
    have hlen : len = 1 := hlen
    subst hlen
    unfold g_p2 at hw; split at hw
    · exact lv_ior hx hb hd (hK _ _ _ _ _ hw p l e s m args below meth c B D cA H locs ls hC hH hS hL)
    · exact hw.elim
  | ishl =>
    rw [s_ishl] at hw
    have hlen : len = 1 := hlen
    subst hlen
    unfold g_p2 at hw; split at hw
    · exact lv_ishl hx hb hd (hK _ _ _ _ _ hw p l e s m args below meth c B D cA H locs ls hC hH hS hL)
    · exact hw.elim
  | idiv =>
    rw [s_idiv] at hw
    have hlen : len = 1 := hlen
    subst hlen
    unfold g_p2 at hw; split at hw
    · obtain ⟨h9, hw⟩ := hw; exact lv_idiv hx hb hd h9 (hK _ _ _ _ _ hw p l e s m args below meth c B D cA H locs ls hC hH hS hL)
    · exact hw.elim
  | irem =>
    rw [s_irem] at hw
    have hlen : len = 1 := hlen
    subst hlen
    unfold g_p2 at hw; split at hw
    · obtain ⟨h9, hw⟩ := hw; exact lv_irem hx hb hd h9 (hK _ _ _ _ _ hw p l e s m args below meth c B D cA H locs ls hC hH hS hL)
    · exact hw.elim
  | ineg =>
    rw [s_ineg] at hw
    have hlen : len = 1 := hlen
    subst hlen
    unfold g_p1 at hw; split at hw
    · exact lv_ineg hx hb hd (hK _ _ _ _ _ hw p l e s m args below meth c B D cA H locs ls hC hH hS hL)
    · exact hw.elim
  | i2l =>
    rw [s_i2l] at hw
    have hlen : len = 1 := hlen
    subst hlen
    unfold g_p1 at hw; split at hw
    · exact lv_i2l hx hb hd rfl (hK _ _ _ _ _ hw p l e s m args below meth c B D cA H locs ls hC hH hS hL)
    · exact hw.elim
  | i2c =>
    rw [s_i2c] at hw
    have hlen : len = 1 := hlen
    subst hlen
    unfold g_p1 at hw; split at hw
    · exact lv_i2c hx hb hd rfl (hK _ _ _ _ _ hw p l e s m args below meth c B D cA H locs ls hC hH hS hL)
    · exact hw.elim
  | l2i =>
    rw [s_l2i] at hw
    have hlen : len = 1 := hlen
    subst hlen
    unfold g_l1 at hw; split at hw
    · exact lv_l2i hx hb hd rfl (hK _ _ _ _ _ hw p l e s m args below meth c B D cA H locs ls hC hH hS hL)
    · exact hw.elim
  | lneg =>
    rw [s_lneg] at hw
    have hlen : len = 1 := hlen
    subst hlen
    unfold g_l1 at hw; split at hw
    · exact lv_lneg hx hb hd (hK _ _ _ _ _ hw p l e s m args below meth c B D cA H locs ls hC hH hS hL)
    · exact hw.elim
  | ladd =>
    rw [s_ladd] at hw
    have hlen : len = 1 := hlen
    subst hlen
    unfold g_l2 at hw; split at hw
    · exact lv_ladd hx hb hd (hK _ _ _ _ _ hw p l e s m args below meth c B D cA H locs ls hC hH hS hL)
    · exact hw.elim
  | lsub =>
    rw [s_lsub] at hw
    have hlen : len = 1 := hlen
    subst hlen
    unfold g_l2 at hw; split at hw
    · exact lv_lsub hx hb hd (hK _ _ _ _ _ hw p l e s m args below meth c B D cA H locs ls hC hH hS hL)
    · exact hw.elim
  | lmul =>
    rw [s_lmul] at hw
    have hlen : len = 1 := hlen
    subst hlen
    unfold g_l2 at hw; split at hw
    · exact lv_lmul hx hb hd (hK _ _ _ _ _ hw p l e s m args below meth c B D cA H locs ls hC hH hS hL)
    · exact hw.elim
  | ldiv =>
    rw [s_ldiv] at hw
    have hlen : len = 1 := hlen
    subst hlen
    unfold g_l2 at hw; split at hw
    · obtain ⟨h9, hw⟩ := hw; exact lv_ldiv hx hb hd h9 (hK _ _ _ _ _ hw p l e s m args below meth c B D cA H locs ls hC hH hS hL)
    · exact hw.elim
  | lshr =>
    rw [s_lshr] at hw
    have hlen : len = 1 := hlen
    subst hlen
    unfold g_li at hw; split at hw
    · exact lv_lshr hx hb hd rfl (hK _ _ _ _ _ hw p l e s m args below meth c B D cA H locs ls hC hH hS hL)
    · exact hw.elim
  | lcmp =>
    rw [s_lcmp] at hw
    have hlen : len = 1 := hlen
    subst hlen
    unfold g_l2 at hw; split at hw
    · exact W.lcmp hx hb hd (hK _ _ _ _ _ hw p l e s m args below meth c B D cA H locs ls hC hH hS hL)
    · exact hw.elim
  | dup =>
    rw [s_dup] at hw
    have hlen : len = 1 := hlen
    subst hlen
    unfold g_p1v at hw; split at hw
    · obtain ⟨h9, hw⟩ := hw; exact lv_dup hx hb hd ((g_cat _ _).trans h9) (hK _ _ _ _ _ hw p l e s m args below meth c B D cA H locs ls hC hH hS hL)
    · exact hw.elim
  | pop =>
    rw [s_pop] at hw
    have hlen : len = 1 := hlen
    subst hlen
    unfold g_p1v at hw; split at hw
    · obtain ⟨h9, hw⟩ := hw; exact lv_pop hx hb hd ((g_cat _ _).trans h9) (hK _ _ _ _ _ hw p l e s m args below meth c B D cA H locs ls hC hH hS hL)
    · exact hw.elim
  | dup2 =>
    rw [s_dup2] at hw
    have hlen : len = 1 := hlen
    subst hlen
    unfold g_p2v at hw; split at hw
    · obtain ⟨h9, hw⟩ := hw; exact lv_dup2_11 hx hb hd ((g_cat _ _).trans h9.1) ((g_cat _ _).trans h9.2) (hK _ _ _ _ _ hw p l e s m args below meth c B D cA H locs ls hC hH hS hL)
    · exact hw.elim
  | goto off =>
    have hck2 : (pc : Int) + off = (a1 : Int) := hck
    rw [s_goto] at hw
    have hlen : len = 3 := hlen
    subst hlen
    exact lv_goto hx hb hd hck2 (hw p l e s m args below meth c B D cA H locs ls hC hH hS hL)
  | ifCond cnd off =>
    cases cnd with
    | eq =>
      have hck2 : (pc : Int) + off = (a1 : Int) := hck
      rw [s_ifCond_eq] at hw
      have hlen : len = 3 := hlen
      subst hlen
      unfold g_p1 at hw; split at hw
      · exact lv_if_eq hx hb hd hck2 (fun q9 => (hw.1 q9 p l e s m args below meth c B D cA H locs ls hC hH hS hL)) (fun q9 => (hw.2 q9 p l e s m args below meth c B D cA H locs ls hC hH hS hL))
      · exact hw.elim
    | ne =>
      have hck2 : (pc : Int) + off = (a1 : Int) := hck
      rw [s_ifCond_ne] at hw
      have hlen : len = 3 := hlen
      subst hlen
      unfold g_p1 at hw; split at hw
      · exact lv_if_ne hx hb hd hck2 (fun q9 => (hw.1 q9 p l e s m args below meth c B D cA H locs ls hC hH hS hL)) (fun q9 => (hw.2 q9 p l e s m args below meth c B D cA H locs ls hC hH hS hL))
      · exact hw.elim
    | lt =>
      have hck2 : (pc : Int) + off = (a1 : Int) := hck
      rw [s_ifCond_lt] at hw
      have hlen : len = 3 := hlen
      subst hlen
      unfold g_p1 at hw; split at hw
      · exact lv_if_lt hx hb hd hck2 (fun q9 => (hw.1 q9 p l e s m args below meth c B D cA H locs ls hC hH hS hL)) (fun q9 => (hw.2 q9 p l e s m args below meth c B D cA H locs ls hC hH hS hL))
      · exact hw.elim
    | ge =>
      have hck2 : (pc : Int) + off = (a1 : Int) := hck
      rw [s_ifCond_ge] at hw
      have hlen : len = 3 := hlen
      subst hlen
      unfold g_p1 at hw; split at hw
      · exact lv_if_ge hx hb hd hck2 (fun q9 => (hw.1 q9 p l e s m args below meth c B D cA H locs ls hC hH hS hL)) (fun q9 => (hw.2 q9 p l e s m args below meth c B D cA H locs ls hC hH hS hL))
      · exact hw.elim
    | gt =>
      have hck2 : (pc : Int) + off = (a1 : Int) := hck
      rw [s_ifCond_gt] at hw
      have hlen : len = 3 := hlen
      subst hlen
      unfold g_p1 at hw; split at hw
      · exact lv_if_gt hx hb hd hck2 (fun q9 => (hw.1 q9 p l e s m args below meth c B D cA H locs ls hC hH hS hL)) (fun q9 => (hw.2 q9 p l e s m args below meth c B D cA H locs ls hC hH hS hL))
      · exact hw.elim
    | le =>
      have hck2 : (pc : Int) + off = (a1 : Int) := hck
      rw [s_ifCond_le] at hw
      have hlen : len = 3 := hlen
      subst hlen
      unfold g_p1 at hw; split at hw
      · exact lv_if_le hx hb hd hck2 (fun q9 => (hw.1 q9 p l e s m args below meth c B D cA H locs ls hC hH hS hL)) (fun q9 => (hw.2 q9 p l e s m args below meth c B D cA H locs ls hC hH hS hL))
      · exact hw.elim
  | if_icmp cnd off =>
    cases cnd with
    | eq =>
      have hck2 : (pc : Int) + off = (a1 : Int) := hck
      rw [s_if_icmp_eq] at hw
      have hlen : len = 3 := hlen
      subst hlen
      unfold g_p2 at hw; split at hw
      · exact lv_icmp_eq hx hb hd hck2 (fun q9 => (hw.1 q9 p l e s m args below meth c B D cA H locs ls hC hH hS hL)) (fun q9 => (hw.2 q9 p l e s m args below meth c B D cA H locs ls hC hH hS hL))
      · exact hw.elim
    | ne =>
      have hck2 : (pc : Int) + off = (a1 : Int) := hck
      rw [s_if_icmp_ne] at hw
      have hlen : len = 3 := hlen
      subst hlen
      unfold g_p2 at hw; split at hw
      · exact lv_icmp_ne hx hb hd hck2 (fun q9 => (hw.1 q9 p l e s m args below meth c B D cA H locs ls hC hH hS hL)) (fun q9 => (hw.2 q9 p l e s m args below meth c B D cA H locs ls hC hH hS hL))
      · exact hw.elim
    | lt =>
      have hck2 : (pc : Int) + off = (a1 : Int) := hck
      rw [s_if_icmp_lt] at hw
      have hlen : len = 3 := hlen
      subst hlen
      unfold g_p2 at hw; split at hw
      · exact lv_icmp_lt hx hb hd hck2 (fun q9 => (hw.1 q9 p l e s m args below meth c B D cA H locs ls hC hH hS hL)) (fun q9 => (hw.2 q9 p l e s m args below meth c B D cA H locs ls hC hH hS hL))
      · exact hw.elim
    | ge =>
      have hck2 : (pc : Int) + off = (a1 : Int) := hck
      rw [s_if_icmp_ge] at hw
      have hlen : len = 3 := hlen
      subst hlen
      unfold g_p2 at hw; split at hw
      · exact lv_icmp_ge hx hb hd hck2 (fun q9 => (hw.1 q9 p l e s m args below meth c B D cA H locs ls hC hH hS hL)) (fun q9 => (hw.2 q9 p l e s m args below meth c B D cA H locs ls hC hH hS hL))
      · exact hw.elim
    | gt =>
      have hck2 : (pc : Int) + off = (a1 : Int) := hck
      rw [s_if_icmp_gt] at hw
      have hlen : len = 3 := hlen
      subst hlen
      unfold g_p2 at hw; split at hw
      · exact lv_icmp_gt hx hb hd hck2 (fun q9 => (hw.1 q9 p l e s m args below meth c B D cA H locs ls hC hH hS hL)) (fun q9 => (hw.2 q9 p l e s m args below meth c B D cA H locs ls hC hH hS hL))
      · exact hw.elim
    | le =>
      have hck2 : (pc : Int) + off = (a1 : Int) := hck
      rw [s_if_icmp_le] at hw
      have hlen : len = 3 := hlen
      subst hlen
      unfold g_p2 at hw; split at hw
      · exact lv_icmp_le hx hb hd hck2 (fun q9 => (hw.1 q9 p l e s m args below meth c B D cA H locs ls hC hH hS hL)) (fun q9 => (hw.2 q9 p l e s m args below meth c B D cA H locs ls hC hH hS hL))
      · exact hw.elim
  | ifnull off =>
    have hck2 : (pc : Int) + off = (a1 : Int) := hck
    rw [s_ifnull] at hw
    have hlen : len = 3 := hlen
    subst hlen
    unfold g_pA at hw; split at hw
    · exact lv_ifnull hx hb hd (hw.2 (fun q => by cases q) p l e s m args below meth c B D cA H locs ls hC hH hS hL)
    · exact lv_ifnullN hx hb hd hck2 (hw.1 rfl p l e s m args below meth c B D cA H locs ls hC hH hS hL)
    · exact hw.elim
  | ifnonnull off =>
    have hck2 : (pc : Int) + off = (a1 : Int) := hck
    rw [s_ifnonnull] at hw
    have hlen : len = 3 := hlen
    subst hlen
    unfold g_pA at hw; split at hw
    · exact lv_ifnonnull hx hb hd hck2 (hw.1 (fun q => by cases q) p l e s m args below meth c B D cA H locs ls hC hH hS hL)
    · exact lv_ifnonnullN hx hb hd (hw.2 rfl p l e s m args below meth c B D cA H locs ls hC hH hS hL)
    · exact hw.elim
  | tableswitch dflt lo hi offs =>
    have hck2 : 0 ≤ (pc : Int) + dflt ∧ hi < lo + offs.size ∧ ∀ o ∈ offs, 0 ≤ (pc : Int) + o := hck
    rw [s_tableswitch] at hw
    unfold g_p1 at hw; split at hw
    · next x r =>
      by_cases h1 : x.toInt < lo ∨ hi < x.toInt
      · exact lv_tableOut hx hb hd h1 (Int.toNat_of_nonneg hck2.1).symm (hw.1 h1 p l e s m args below meth c B D cA H locs ls hC hH hS hL)
      · have h2 : ¬ x.toInt < lo := fun q => h1 (Or.inl q)
        have h3 : ¬ hi < x.toInt := fun q => h1 (Or.inr q)
        have hlt : (x.toInt - lo).toNat < offs.size := by have := hck2.2.1; omega
        have ho : offs[(x.toInt - lo).toNat]? = some offs[(x.toInt - lo).toNat] := Array.getElem?_eq_getElem hlt
        exact lv_tableIn hx hb hd h2 h3 ho (Int.toNat_of_nonneg (hck2.2.2 _ (Array.getElem_mem hlt))).symm (hw.2 _ _ ho (by omega) (by omega) p l e s m args below meth c B D cA H locs ls hC hH hS hL)
    · exact hw.elim
  | getfield n =>
    have hck2 : g_fl (g_m k).1.cls n a1 a2 a3 = true := hck
    rw [s_getfield] at hw
    have hlen : len = 3 := hlen
    subst hlen
    unfold g_pR at hw; split at hw
    · next a r =>
      unfold g_ob at hw; split at hw
      · next ci' fs hc9 =>
        obtain ⟨rfl, hw⟩ := hw
        unfold g_gt at hw; split at hw
        · next v hv9 =>
          obtain ⟨C, T, N, hcl, hlt, hw9⟩ := g_fl_spec hck2
          exact va_get (D := D) (ws := g_wd B cA h) (ci := ci') (v := g_cv B v) (C := C) (T := T) (N := N) hx hb hts (g_lays hcl) hown hKk hH.2.1 a (g_wd_at hc9) hcl a2 hlt (hts _ (g_wm hw9)) (fun _ h9 => h9) (by rw [List.getElem?_map, hv9]; rfl) hd (hK _ _ _ _ _ hw p l e s m args below meth c B D cA H locs ls hC hH hS hL)
        · exact hw.elim
      · exact hw.elim
    · exact hw.elim
  | iaload =>
    rw [s_iaload] at hw
    have hlen : len = 1 := hlen
    subst hlen
    unfold g_iR at hw; split at hw
    · next a i r =>
      unfold g_ia at hw; split at hw
      · next n f hc9 =>
        obtain ⟨rfl, j9, hj9, rfl, hw⟩ := hw
        obtain ⟨hin, hj8⟩ := I_in hj9
        rw [← hj8] at hw
        exact va_iald (D := D) (tys := g_tys cA) hx hb hKk hH.2.1 _ 0 (g_wd_at hc9) rfl hin hd (hK _ _ _ _ _ hw p l e s m args below meth c B D cA H locs ls hC hH hS hL)
      · exact hw.elim
    · exact hw.elim
  | caload =>
    rw [s_caload] at hw
    have hlen : len = 1 := hlen
    subst hlen
    unfold g_iR at hw; split at hw
    · next a i r =>
      unfold g_ia at hw; split at hw
      · next n f hc9 =>
        obtain ⟨rfl, j9, hj9, rfl, hw⟩ := hw
        obtain ⟨hin, hj8⟩ := I_in hj9
        rw [← hj8] at hw
        exact va_cald (D := D) (tys := g_tys cA) hx hb hKk hH.2.1 _ 1 (g_wd_at hc9) rfl hin hd (hK _ _ _ _ _ hw p l e s m args below meth c B D cA H locs ls hC hH hS hL)
      · exact hw.elim
    · exact hw.elim
  | aaload =>
    rw [s_aaload] at hw
    have hlen : len = 1 := hlen
    subst hlen
    unfold g_iR at hw; split at hw
    · next a i r =>
      unfold g_ra at hw; split at hw
      · next t n f hc9 =>
        obtain ⟨ht, j9, hj9, rfl, hw⟩ := hw
        obtain ⟨hin, hj8⟩ := I_in hj9
        rw [← hj8] at hw
        have go := (hK _ _ _ _ _ hw p l e s m args below meth c B D cA H locs ls hC hH hS hL)
        rw [List.map_cons, ← g_rf_cv] at go
        rcases ht with rfl | rfl
        · exact va_aldq (D := D) (tys := g_tys cA) (C := "VectorPens$Stroke") hx hb hKk hH.2.1 _ 2 (g_wd_at hc9) rfl hin hd go
        · exact va_aldq (D := D) (tys := g_tys cA) (C := "VectorPens$Drawing") hx hb hKk hH.2.1 _ 3 (g_wd_at hc9) rfl hin hd go
      · exact hw.elim
    · exact hw.elim
  | arraylength =>
    rw [s_arraylength] at hw
    have hlen : len = 1 := hlen
    subst hlen
    unfold g_pR at hw; split at hw
    · next a r =>
      unfold g_al at hw; split at hw
      · next t n f hc9 =>
        obtain ⟨ht, hw⟩ := hw
        rcases (show t = 0 ∨ t = 1 by omega) with rfl | rfl
        · exact va_alen (D := D) (tys := g_tys cA) (ty := .int) hx hb hKk hH.2.1 _ 0 (g_wd_at hc9) rfl rfl hd (hK _ _ _ _ _ hw p l e s m args below meth c B D cA H locs ls hC hH hS hL)
        · exact va_alen (D := D) (tys := g_tys cA) (ty := .char) hx hb hKk hH.2.1 _ 1 (g_wd_at hc9) rfl rfl hd (hK _ _ _ _ _ hw p l e s m args below meth c B D cA H locs ls hC hH hS hL)
      · next t n f hc9 =>
        obtain ⟨ht, hw⟩ := hw
        rcases ht with rfl | rfl
        · exact va_alen (D := D) (tys := g_tys cA) (ty := .object "VectorPens$Stroke") hx hb hKk hH.2.1 _ 2 (g_wd_at hc9) rfl rfl hd (hK _ _ _ _ _ hw p l e s m args below meth c B D cA H locs ls hC hH hS hL)
        · exact va_alen (D := D) (tys := g_tys cA) (ty := .object "VectorPens$Drawing") hx hb hKk hH.2.1 _ 3 (g_wd_at hc9) rfl rfl hd (hK _ _ _ _ _ hw p l e s m args below meth c B D cA H locs ls hC hH hS hL)
      · exact hw.elim
    · exact hw.elim
  | putfield n =>
    have hck2 : g_fl (g_m k).1.cls n a1 a2 a3 = true ∧ g_ft (g_m k).1 v a1 a2 = true := hck
    rw [s_putfield] at hw
    have hlen : len = 3 := hlen
    subst hlen
    unfold g_pv at hw; split at hw
    · next x a r =>
      obtain ⟨hty, hw⟩ := hw
      unfold g_ob at hw; split at hw
      · next ci' fs hc9 =>
        obtain ⟨rfl, hlen, hw⟩ := hw
        exact g_putI hx hb hts hown hKk hH hS hck2 hc9 hlen hty hd (fun H1 locs1 h1 h2 => hK _ _ _ _ _ hw p l e s m args below meth c B D cA H1 locs1 ls hC h1 h2 hL)
      · exact hw.elim
    · next b a r =>
      obtain ⟨hty, hw⟩ := hw
      unfold g_ob at hw; split at hw
      · next ci' fs hc9 =>
        obtain ⟨rfl, hlen, hw⟩ := hw
        exact g_putR hx hb hts hown hKk hH hS hck2 hnm hc9 hlen hty hd (fun H1 locs1 h1 h2 => hK _ _ _ _ _ hw p l e s m args below meth c B D cA H1 locs1 ls hC h1 h2 hL)
      · exact hw.elim
    · exact hw.elim
  | iastore =>
    rw [s_iastore] at hw
    have hlen : len = 1 := hlen
    subst hlen
    unfold g_iiR at hw; split at hw
    · next x i a r =>
      unfold g_ia at hw; split at hw
      · next n f hc9 =>
        obtain ⟨rfl, j9, hj9, rfl, hw⟩ := hw
        obtain ⟨hin, hj8⟩ := I_in hj9
        rw [← hj8] at hw
        exact g_iast hx hb hKk hH hS hc9 hin hd (fun H1 locs1 h1 h2 => hK _ _ _ _ _ hw p l e s m args below meth c B D cA H1 locs1 ls hC h1 h2 hL)
      · exact hw.elim
    · exact hw.elim
  | castore =>
    rw [s_castore] at hw
    have hlen : len = 1 := hlen
    subst hlen
    unfold g_iiR at hw; split at hw
    · next x i a r =>
      unfold g_ia at hw; split at hw
      · next n f hc9 =>
        obtain ⟨rfl, j9, hj9, rfl, hw⟩ := hw
        obtain ⟨hin, hj8⟩ := I_in hj9
        rw [← hj8] at hw
        exact g_cast hx hb hKk hH hS hc9 hin hd (fun H1 locs1 h1 h2 => hK _ _ _ _ _ hw p l e s m args below meth c B D cA H1 locs1 ls hC h1 h2 hL)
      · exact hw.elim
    · exact hw.elim
  | aastore =>
    rw [s_aastore] at hw
    have hlen : len = 1 := hlen
    subst hlen
    unfold g_riR at hw; split at hw
    · next b i a r =>
      unfold g_ra at hw; split at hw
      · next t n f hc9 =>
        obtain ⟨j9, hj9, rfl, hel, hw⟩ := hw
        obtain ⟨hin, hj8⟩ := I_in hj9
        rw [← hj8] at hw
        exact g_aast hx hb hKk hH hS hc9 hin hel hd (fun H1 locs1 h1 h2 => hK _ _ _ _ _ hw p l e s m args below meth c B D cA H1 locs1 ls hC h1 h2 hL)
      · exact hw.elim
    · exact hw.elim
  | new n =>
    have hck2 : g_nw (g_m k).1.cls n a1 a2 a3 = true := hck
    rw [s_new] at hw
    have hlen : len = 3 := hlen
    subst hlen
    obtain ⟨hc9, hs9, hw⟩ := hw
    exact g_new hx hb hts hown hKk hH hS hBs hck2 hc9 hs9 hd (fun H1 h1 h2 => hK _ _ _ _ _ hw p l e s m args below meth c B D cA H1 locs ls hC h1 h2 hL)
  | newarray t =>
    have hck2 : g_na t a1 a2 a3 = true := hck
    rw [s_newarray] at hw
    have hlen : len = 2 := hlen
    subst hlen
    unfold g_p1 at hw; split at hw
    · next x r =>
      obtain ⟨rfl, hc9, hs9, hw⟩ := hw
      exact g_newa hx hb hts hKk hH hS hBs hck2 hc9 hs9 hd (fun H1 h1 h2 => hK _ _ _ _ _ hw p l e s m args below meth c B D cA H1 locs ls hC h1 h2 hL)
    · exact hw.elim
  | anewarray n =>
    have hck2 : g_nq (g_m k).1.cls n a1 a2 a3 = true := hck
    rw [s_anewarray] at hw
    have hlen : len = 3 := hlen
    subst hlen
    unfold g_p1 at hw; split at hw
    · next x r =>
      obtain ⟨rfl, hc9, hs9, hw⟩ := hw
      exact g_newq hx hb hts hown hKK hH hS hBs hck2 hc9 hs9 hd (fun H1 h1 h2 => hK _ _ _ _ _ hw p l e s m args below meth c B D cA H1 locs ls hC h1 h2 hL)
    · exact hw.elim
  | invokevirtual n =>
    have hck2 : g_cV (g_m k).1.cls n a1 a2 a3 v = true := hck
    rw [s_invokevirtual] at hw
    have hlen : len = 3 := hlen
    subst hlen
    unfold g_rc at hw; split at hw
    · next b r hr9 =>
      obtain ⟨hl9, hd9, hm9, hw⟩ := hw
      unfold g_ob at hw; split at hw
      · next ci' fs hc9 =>
        obtain ⟨rfl, hw⟩ := hw
        exact g_virt hC hH hS hL hck2 hr9 hl9 hd9 hc9 hw hd hm9.1 hm9.2
      · exact hw.elim
    · exact hw.elim
  | invokestatic n =>
    have hck2 : if a2 = 1 then g_cT (g_m k).1.cls n a1 a3 v = true else if a1 = 9991 ∨ a1 = 9992 ∨ a1 = 9993 ∨ a1 = 9994 then g_cM (g_m k).1.cls n a1 a3 = true else g_cS (g_m k).1.cls n a1 a3 v = true := hck
    rw [s_invokestatic] at hw
    have hlen : len = 3 := hlen
    subst hlen
    by_cases h0 : a2 = 1
    · rw [if_pos h0] at hw hck2
      obtain ⟨hcd9, hn9, hl9, hd9, mc9, ms9, hm9, hs9, hw⟩ := hw
      exact g_stM hC hH hS hL hcd9 hck2 hn9 hl9 hd9 hm9 hs9 hw hd
    rw [if_neg h0] at hw hck2
    by_cases h1 : a1 = 9991
    · rw [if_pos h1] at hw
      have h9 := h1
      have hck3 : g_cM (g_m k).1.cls n a1 a3 = true := by rw [if_pos (by omega)] at hck2; exact hck2
      unfold g_cM at hck3
      unfold g_p1 at hw; split at hw
      · obtain ⟨hl9, hd9, hm9, hw⟩ := hw
        have hsum := g_catsum B _ hl9
        exact va_mabs hx hb (hml.trans hL.1.symm) hown (hts _ (g_wm (by simpa [h9] using hck3))) (hts _ g_mabs_w.1) (hts _ g_mabs_w.2.1) (hts _ g_mabs_w.2.2) hd9 (by have := g_lo_ge d; show _ + 13 ≤ g_lo d; omega) hm9.1 hm9.2 hd (hK _ _ _ _ _ hw p l e s m args below meth c B D cA H locs ls hC hH hS hL)
      · exact hw.elim
    rw [if_neg h1] at hw
    by_cases h2 : a1 = 9992
    · rw [if_pos h2] at hw
      have h9 := h2
      have hck3 : g_cM (g_m k).1.cls n a1 a3 = true := by rw [if_pos (by omega)] at hck2; exact hck2
      unfold g_cM at hck3
      unfold g_l1 at hw; split at hw
      · obtain ⟨hl9, hd9, hm9, hw⟩ := hw
        have hsum := g_catsum B _ hl9
        exact va_mabs_long hx hb (hml.trans hL.1.symm) hown (hts _ (g_wm (by simpa [h9] using hck3))) (hts _ g_mlab_w.1) (hts _ g_mlab_w.2.1) (hts _ g_mlab_w.2.2) hd9 (by have := g_lo_ge d; show _ + 13 ≤ g_lo d; omega) hm9.1 hm9.2 hd (hK _ _ _ _ _ hw p l e s m args below meth c B D cA H locs ls hC hH hS hL)
      · exact hw.elim
    rw [if_neg h2] at hw
    by_cases h3 : a1 = 9993
    · rw [if_pos h3] at hw
      have h9 := h3
      have hck3 : g_cM (g_m k).1.cls n a1 a3 = true := by rw [if_pos (by omega)] at hck2; exact hck2
      unfold g_cM at hck3
      unfold g_p2 at hw; split at hw
      · obtain ⟨hl9, hd9, hm9, hw⟩ := hw
        have hsum := g_catsum B _ hl9
        exact va_mmax hx hb (hml.trans hL.1.symm) hown (hts _ (g_wm (by simpa [h9] using hck3))) (hts _ g_mmax_w.1) (hts _ g_mmax_w.2.1) (hts _ g_mmax_w.2.2) hd9 (by have := g_lo_ge d; show _ + 13 ≤ g_lo d; omega) hm9.1 hm9.2 hd (hK _ _ _ _ _ hw p l e s m args below meth c B D cA H locs ls hC hH hS hL)
      · exact hw.elim
    rw [if_neg h3] at hw
    by_cases h4 : a1 = 9994
    · rw [if_pos h4] at hw
      have h9 := h4
      have hck3 : g_cM (g_m k).1.cls n a1 a3 = true := by rw [if_pos (by omega)] at hck2; exact hck2
      unfold g_cM at hck3
      unfold g_p2 at hw; split at hw
      · obtain ⟨hl9, hd9, hm9, hw⟩ := hw
        have hsum := g_catsum B _ hl9
        exact va_mmin hx hb (hml.trans hL.1.symm) hown (hts _ (g_wm (by simpa [h9] using hck3))) (hts _ g_mmin_w.1) (hts _ g_mmin_w.2.1) (hts _ g_mmin_w.2.2) hd9 (by have := g_lo_ge d; show _ + 13 ≤ g_lo d; omega) hm9.1 hm9.2 hd (hK _ _ _ _ _ hw p l e s m args below meth c B D cA H locs ls hC hH hS hL)
      · exact hw.elim
    rw [if_neg h4] at hw
    rw [if_neg (by omega)] at hck2
    obtain ⟨hn9, hl9, hd9, hm9, hw⟩ := hw
    exact g_stat hC hH hS hL hck2 hn9 hl9 hd9 hw hd hm9.1 hm9.2
  | invokespecial n =>
    have hck2 : if a1 = 9999 then g_cO (g_m k).1.cls n a3 = true else g_cI (g_m k).1.cls n a1 a3 v = true := hck
    rw [s_invokespecial] at hw
    have hlen : len = 3 := hlen
    subst hlen
    split at hw
    · next ha9 =>
      obtain ⟨hd9, hl9, hw⟩ := hw
      unfold g_pR at hw; split at hw
      · next a r => exact g_oini hC hL (by rw [ha9] at hck2; exact hck2) hl9 hd9 hd (hK _ _ _ _ _ hw p l e s m args below meth c B D cA H locs ls hC hH hS hL)
      · exact hw.elim
    · next ha9 =>
      unfold g_rc at hw; split at hw
      · next b r hr9 =>
        obtain ⟨hl9, hd9, mc9, ms9, hm9, hs9, hw⟩ := hw
        exact g_spec hC hH hS hL ha9 hck2 hr9 hl9 hd9 hm9 hs9 hw hd
      · exact hw.elim
  | ireturn =>
    rw [s_ireturn] at hw
    have hlen : len = 1 := hlen
    subst hlen
    unfold g_p1 at hw; split at hw
    · next x r => obtain ⟨rfl, hm9, hr9, hq9⟩ := hw; exact g_iret hC hH hS hm9 hr9 hq9 hd
    · exact hw.elim
  | lreturn =>
    rw [s_lreturn] at hw
    have hlen : len = 1 := hlen
    subst hlen
    unfold g_l1 at hw; split at hw
    · next x r => obtain ⟨rfl, hm9, hr9, hq9⟩ := hw; exact g_lret hC hH hS hm9 hr9 hq9 hd
    · exact hw.elim
  | areturn =>
    rw [s_areturn] at hw
    have hlen : len = 1 := hlen
    subst hlen
    unfold g_pA at hw; split at hw
    · next x r => obtain ⟨rfl, hm9, hr9, hq9⟩ := hw; exact g_aret hC hH hS hm9 hr9 (Or.inr ⟨_, rfl⟩) hq9 hd
    · next r => obtain ⟨rfl, hm9, hr9, hq9⟩ := hw; exact g_aret hC hH hS hm9 hr9 (Or.inl rfl) hq9 hd
    · exact hw.elim
  | return_ =>
    rw [s_return_] at hw
    have hlen : len = 1 := hlen
    subst hlen
    obtain ⟨rfl, hm9, hr9, hq9⟩ := hw; exact g_vret hC hH hS hm9 hr9 hq9 hd
  | _ => exact False.elim hw

/-! ===== a block of instructions; whole methods ===== -/
def g_okE (k : Nat) (q : g_E) : Bool := decide (decode (g_m k).2.1 q.1 = .ok (q.2.2.2.2.2.2, q.2.1)) && decide (q.2.1 = g_len q.2.1 q.2.2.2.2.2.2) && g_okB k q
def g_isB (k pe : Nat) (pc : Nat) (is : List g_E) : Bool := match is with
  | [] => decide (pc = pe)
  | q :: r => decide (q.1 = pc) && g_okE k q && g_isB k pe (pc + q.2.1) r
def g_wp (k d mc ms : Nat) (Q : g_Po) (pe : Nat) (is : List g_E) : g_K := match is with
  | [] => fun cs ss L st h => G k d mc ms cs ss pe L st h Q
  | q :: r => g_st k d mc ms Q (g_wp k d mc ms Q pe r) q
theorem wp_nil (k d mc ms : Nat) (Q : g_Po) (pe cs ss : Nat) (L : List (Option Value)) (st : List Value) (h : g_H) : g_wp k d mc ms Q pe [] cs ss L st h = G k d mc ms cs ss pe L st h Q := rfl
theorem wp_cons (k d mc ms : Nat) (Q : g_Po) (pe : Nat) (q : g_E) (r : List g_E) (cs ss : Nat) (L : List (Option Value)) (st : List Value) (h : g_H) : g_wp k d mc ms Q pe (q :: r) cs ss L st h = g_st k d mc ms Q (g_wp k d mc ms Q pe r) q cs ss L st h := rfl
theorem G.run {k d mc ms pe : Nat} {Q : g_Po} : ∀ {is : List g_E} {pc cs ss : Nat} {L : List (Option Value)} {st : List Value} {h : g_H}, g_isB k pe pc is = true → g_wp k d mc ms Q pe is cs ss L st h → G k d mc ms cs ss pc L st h Q := by
  intro is
  induction is with
  | nil =>
    intro pc cs ss L st h hb hw
    have e : pc = pe := of_decide_eq_true hb
    rw [e]
    exact hw
  | cons q r ih =>
    intro pc cs ss L st h hb hw
    unfold g_isB at hb
    simp only [Bool.and_eq_true, decide_eq_true_eq] at hb
    obtain ⟨⟨rfl, h2⟩, h3⟩ := hb
    unfold g_okE at h2
    simp only [Bool.and_eq_true, decide_eq_true_eq] at h2
    obtain ⟨⟨h4, h5⟩, h6⟩ := h2
    obtain ⟨pc, len, a1, a2, a3, v, ins⟩ := q
    exact g_st_sound h4 h5 (g_ok_of h6) (fun cs ss L st h hk => ih h3 hk) hw
theorem g_sl_len (B : g_Bs) (as : List Value) : (lg_sl (as.map (g_cv B))).length = (g_L0 as).length := by
  induction as with
  | nil => rfl
  | cons v r ih =>
    have e : lg_sl ((v :: r).map (g_cv B)) = (if (g_cv B v).category = 2 then [Slot.val (g_cv B v), Slot.second] else [Slot.val (g_cv B v)]) ++ lg_sl (r.map (g_cv B)) := rfl
    rw [e, List.length_append, ih]
    have hcat : (g_cv B v).category = 2 ↔ g_c2 v = true := by rw [g_cat, g_c2_iff]
    have e2 : g_L0 (v :: r) = if g_c2 v = true then some v :: none :: g_L0 r else some v :: g_L0 r := rfl
    by_cases hc : g_c2 v = true
    · rw [e2, if_pos hc, if_pos (hcat.mpr hc)]; simp; omega
    · rw [e2, if_neg hc, if_neg (fun q => hc (hcat.mp q))]; simp; omega
theorem Call.intro {k d mc ms : Nat} {as : List Value} {h : g_H} {Q : g_Po} (hp : plainName (g_m k).1.cls = true) (hl : (g_L0 as).length ≤ (g_m k).2.2.1) (hG : G k d mc ms 0 0 0 (g_pad (g_m k).2.2.1 (g_L0 as)) [] h Q) : Call k d mc ms as h Q := by
  intro l B D cA
  refine Met.ofW (cc := (g_m k).2.1) (maxL := (g_m k).2.2.1) (ret := (g_m k).2.2.2.1) hp rfl ?_
  intro p e s m args below meth c s₁ Bd hml hv
  obtain ⟨rfl, hRH, hK⟩ := hv
  have hts := atoms_spec (ws := g_ws k) Bd.pre
  rw [lg_entry_eq]
  have hle : (lg_sl (as.map (g_cv B))).length ≤ (g_m k).2.2.1 := by rw [g_sl_len]; exact hl
  have hen := lv_entry (as.map (g_cv B)) hle
  refine hG p l e s m _ below meth c B D cA s.heap [] _ ⟨Bd.exec, Bd.bytes, hml, Bd.returns, findClass_of_methodNamed Bd.named, fun w hw => hts w (List.mem_cons_of_mem _ hw), Bd.notSynchronized, fun e => (name_of_methodNamed Bd.named Bd.method).1.trans e, hK, by rw [hRH.1]; exact Nat.le_add_right _ _⟩ hRH va_S.rf ⟨hen.1, hen.2.1, fun i v hi => ?_⟩
  have := g_L0_of B as 0 i v (g_pad_of _ _ _ _ hi)
  rw [Nat.zero_add] at this
  exact hen.2.2 _ this
theorem Met.g_mono {l : Launch} {y : MethodName} {ws : List Cond} {rm : Jvm.Room} {Pc : Array Value → State → Prop} {Qc Qc' : Array Value → State → Outcome → State → Prop} {mc ms : Nat} {free : Addr → Prop} (h : Met l y ws rm Pc Qc mc ms free) (hq : ∀ a s o t, Qc a s o t → Qc' a s o t) : Met l y ws rm Pc Qc' mc ms free := by
  intro p e ha hc hk s m args below hf hfit hpc hpr
  obtain ⟨t, o, h1, h2, h3, h4, h5⟩ := h p e ha hc hk s m args below hf hfit hpc hpr
  exact ⟨t, o, h1, h2, h3, hq _ _ _ _ h4, h5⟩
theorem Call.mono {k d mc ms : Nat} {as : List Value} {h : g_H} {Q Q' : g_Po} (hc : Call k d mc ms as h Q) (hq : ∀ r h', Q r h' → Q' r h') : Call k d mc ms as h Q' := fun l B D cA => (hc l B D cA).g_mono (fun a s o t q => ⟨by obtain ⟨r, h', q1, q2⟩ := q.1; exact ⟨r, h', hq r h' q1, q2⟩, q.2⟩)
/-- fewer locals known -/
theorem G.weak {k d mc ms cs ss pc : Nat} {L L' : List (Option Value)} {st : List Value} {h : g_H} {Q : g_Po} (hL : ∀ (i : Nat) (v : Value), L'[i]? = some (some v) → L[i]? = some (some v)) (hG : G k d mc ms cs ss pc L' st h Q) : G k d mc ms cs ss pc L st h Q := by
  intro p l e s m args below meth c B D cA H locs ls hC hH hS hl
  exact hG p l e s m args below meth c B D cA H locs ls hC hH hS ⟨hl.1, hl.2.1, fun i v hi => hl.2.2 i v (hL i v hi)⟩
