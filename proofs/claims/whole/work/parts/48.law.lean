/-! THE CLAIM OUT OF ONE WALK OF THE LAW'S BODY. Your part is whole_start (and what it stands on); all else here is the same for every law, but numbers. -/
def R_law : String := "VectorPensLaw"
def lw_P (b : Addr) (xs : List Int32) (args : Array Value) (s : State) : Prop := args = #[.ref b] ∧ s.IntsAt b xs ∧ xs.length ≤ 2048 ∧ (Jvm.Cond.and given_1 narrow_1).before args s = true
def lw_Q (_ : Array Value) (s : State) (o : Outcome) (t : State) : Prop := o = .returned (some (.int 1)) ∧ Framed s o t [] 600000 7302250
def lw_Z (below : List Frame) (a : Array Value) (s : State) : State → Prop := fun t => ∃ o, t.status = .running ∧ Ended t below o ∧ lw_Q a s o t
/-- the law's own end, with 1 on the stack, nothing written that was there before, its room as the claim has it -/
theorem lw_ret {p : Program} {l : Launch} {e : Env} {s : State} {m : MethodId} {below : List Frame} {meth : Method} {c : Code} {b : Nat} (hx : p.tables.exec = Jvm.exec) (hb : c.code = code) (hr : meth.sig.returnType = ret) (hlocks : meth.locks = false) {pc : Nat} {H : Heap} {ls : Array Slot} (hdg : decode code pc = .ok (.ireturn, 1)) : W p l e room_1 s m #[Value.ref b] below meth c H [] 600000 7302250 (lw_Z below #[Value.ref b] s) (F0 m pc ls [.int 1]) := by
  intro T hT X
  obtain ⟨fs, hret, hrun, hended, hW, hframe⟩ := X.leave (v := some (.int 1)) (hlocks := hlocks) (fun h => by rw [hr] at h; cases h)
  have hmeth' : T.vm.method? m = some meth := X.method'
  refine ⟨T.setFrames fs, ?_, .returned (some (.int 1)), hrun, hended, rfl, ⟨_, rfl⟩, hW, hframe⟩
  jvm_step X.here [X.here.top, hx, hb, hdg, hmeth', hr, ret, narrow_b1]
  (try refine ⟨rfl, ?_⟩); (try refine ⟨rfl, ?_⟩)
  first | (intro acts; rw [hret _ acts rfl rfl rfl]) | rw [hret _ _ rfl rfl rfl]
  exact Steps.refl _
/-- what holds at the law's entry: the machine, the code, the tables' words (any of lw_tbl by 'hts w (by decide +kernel)'), the script of L ints xs at the cell b, what the Statement gives of the start (any of its parts by flat_of_before) -/
def lw_At (p : Program) (s : State) (m : MethodId) (meth : Method) (c : Code) (b L : Nat) (xs : Nat → Int32) : Prop :=
  p.tables.exec = Jvm.exec ∧ c.code = code ∧ meth.sig.returnType = ret ∧ c.maxLocals = 4 ∧ s.vm.findClass R_law = some m.cls ∧ (∀ w ∈ lw_tbl, w.before #[Value.ref b] s = true) ∧ va_X b L xs s s.heap ∧ b < s.heap.size ∧ meth.locks = false ∧ (Jvm.Cond.and given_1 narrow_1).before #[Value.ref b] s = true
/-! ===== the law's frame: reading the script, calling ===== -/
theorem lw_arrI {ty : FieldType} {s : State} {A : Array Value} (h : (Cond.arrayClass ty).before A s = true) : ∃ cA, ArrOfT s cA ty ∧ s.vm.findClass ("[" ++ ty.toString) = some cA := by
  obtain ⟨c, k, comp, h1, h2, h3⟩ := Cond.arrayClass_spec h
  exact ⟨c, fun n z => ⟨(fun k h => by cases h), k, h2, comp, h3⟩, h1⟩
theorem lw_arrO {C : String} {s : State} {A : Array Value} (h : (Cond.arrayOver (.object C)).before A s = true) : ∃ cA, ArrOfT s cA (.object C) ∧ va_RA s cA (.object C) := by
  obtain ⟨comp, c, k, h1, h2, h3, h4, h5⟩ := Cond.arrayOver_spec h
  exact ⟨c, fun n z => ⟨(fun k h => by cases h), k, h3, comp, h4⟩, k, comp, h3, h4, h1, h5⟩
theorem lw_KK {s : State} {A : Array Value} (ht0 : ∀ w ∈ lw_tbl, w.before A s = true) : ∃ (D : va_G) (cA : Nat → ClassId), g_KK D cA s := by
  have hts : ∀ w ∈ lw_gd, w.before A s = true := fun w hw => ht0 w (List.mem_filter.mp hw).1
  have h1 : ∀ ci : Nat, ∃ p : ClassId × (Nat → Nat), ∀ q : vw_C, g_cls[ci]? = some q → u_Kn s q.1 q.2.1 q.2.2 p.1 p.2 := by
    intro ci
    cases hc : g_cls[ci]? with
    | none => exact ⟨((0 : Nat), fun _ => 0), fun q h => by cases h⟩
    | some q =>
      obtain ⟨C, T, N⟩ := q
      obtain ⟨hin, -, hins, -⟩ := g_cf hc
      obtain ⟨c, iS, hk⟩ := u_known hts hin (hts _ hins)
      exact ⟨(c, iS), fun q h => by cases h; exact hk⟩
  obtain ⟨f, hf⟩ := Classical.axiomOfChoice h1
  obtain ⟨a0, b0, n0⟩ := lw_arrI (hts _ (g_wm (n := 1056) (w := Cond.arrayClass .int) (by decide +kernel)))
  obtain ⟨a1, b1, n1⟩ := lw_arrI (hts _ (g_wm (n := 1142) (w := Cond.arrayClass .char) (by decide +kernel)))
  have o2 := ht0 _ (g_w_mem (n := 1029) (w := Cond.arrayOver (.object "VectorPens$Stroke")) (by decide +kernel))
  have o3 := ht0 _ (g_w_mem (n := 1081) (w := Cond.arrayOver (.object "VectorPens$Drawing")) (by decide +kernel))
  obtain ⟨a2, b2, n2⟩ := lw_arrO o2
  obtain ⟨a3, b3, n3⟩ := lw_arrO o3
  refine ⟨(fun ci => (f ci).1, fun ci => (f ci).2), fun t => if t = 0 then a0 else if t = 1 then a1 else if t = 2 then a2 else a3, ⟨fun c q hq => hf c q hq, fun k q hq => ?_⟩, va_AO.of o2, va_AO.of o3⟩
  match k, hq with
  | 0, hq => cases hq; exact ⟨b0, n0⟩
  | 1, hq => cases hq; exact ⟨b1, n1⟩
  | 2, hq => cases hq; exact ⟨b2, n2⟩
  | 3, hq => cases hq; exact ⟨b3, n3⟩
  | k + 4, hq => simp [g_tys] at hq
theorem lw_i32 (x : Int32) : i32 x.toInt := by
  have h1 := Int32.le_toInt x
  have h2 := Int32.toInt_lt x
  omega
theorem lw_I (x : Int32) : I x.toInt = x := Int32.ofInt_toInt x
section LWF
variable {p : Program} {l : Launch} {e : Env} {s : State} {m : MethodId} {below : List Frame} {meth : Method} {c : Code} {H : Heap} {locs : List Loc} {ls : Array Slot} {b L i : Nat} {xs : Nat → Int32} {D : va_G} {cA : Nat → ClassId} {h : g_H} {cells slots pc : Nat} {Qf : State → Prop} {st : List Value}
/-- the script's int at i + k -/
theorem lw_rd (hx : p.tables.exec = Jvm.exec) (hb : c.code = code) (hX : va_X b L xs s s.heap) (hbl : b < s.heap.size) (hL : L ≤ 2048) (hS : va_S (g_A s.heap.size) s.heap H locs) {q0 q1 : Nat} (hl : lv_has ls 4 [(0, .ref b), (1, .ref q0), (2, .ref q1), (3, .int (nI i))]) (k : Nat) (hk : i + k < L) {v : Int} (hv : v = k)
    (d0 : decode code pc = .ok (.aload_n 0, 1)) (d1 : decode code (pc + 1) = .ok (.iload_n 3, 1)) (d2 : decode code (pc + 2) = .ok (.iconst v, 1)) (d3 : decode code (pc + 3) = .ok (.iadd, 1)) (d4 : decode code (pc + 4) = .ok (.iaload, 1))
    (kk : W p l e room_1 s m #[Value.ref b] below meth c H locs cells slots Qf (F0 m (pc + 5) ls (.int (I (xs (i + k)).toInt) :: st))) : W p l e room_1 s m #[Value.ref b] below meth c H locs cells slots Qf (F0 m pc ls st) := by
  have hbA : ¬ g_A s.heap.size b := Nat.not_le.mpr hbl
  subst hv
  refine lv_aload_n hx hb d0 rfl (lv_at hl 0 rfl) ?_
  refine lv_iload_n hx hb d1 rfl (lv_at hl 3 rfl) ?_
  refine lv_iconst (v := nI k) hx hb d2 rfl ?_
  refine lv_iadd hx hb d3 ?_
  rw [nI_add]
  refine va_sld hx hb hX hbl hbA hS (vp_in_nI hk (by omega)) d4 ?_
  rw [nI_clamp (by omega), ← lw_I (xs (i + k))]
  exact kk
theorem lw_virt (hx : p.tables.exec = Jvm.exec) (hb : c.code = code) (hml : c.maxLocals = 4) (hts : ∀ w ∈ lw_gd, w.before #[Value.ref b] s = true) (hown : s.vm.findClass R_law = some m.cls) {B : Nat} (hKk : g_KK D cA s) (hH : g_RH B D cA h H) (hS : va_S (g_A B) s.heap H locs) (hL : ls.size = 4) (hcm : cells ≤ 600000) (hsm : slots ≤ 7302250) {j k' ci a3 a : Nat} {v : Int} (hck : g_cV R_law j k' ci a3 v = true) {As r : List Value} (hv : As.length = v.toNat) (hl9 : r.length ≤ 4) {fs : List Value} (hc9 : h[a]? = some (ob ci fs)) (hd : decode code pc = .ok (.invokevirtual j, 3))
    (hw : Call k' 9 0 0 (.ref a :: As) h (fun r9 h9 => ∀ (H1 : Heap) (locs1 : List Loc), g_RH B D cA h9 H1 → va_S (g_A B) s.heap H1 locs1 → W p l e room_1 s m #[Value.ref b] below meth c H1 locs1 cells slots Qf (F0 m (pc + 3) ls ((r9.toList ++ r).map (g_cv B))))) :
    W p l e room_1 s m #[Value.ref b] below meth c H locs cells slots Qf (F0 m pc ls ((As.map (g_cv B)).reverse ++ .ref (B + a) :: r.map (g_cv B))) := by
  unfold g_cV at hck
  simp only [Bool.and_eq_true, decide_eq_true_eq] at hck
  obtain ⟨⟨⟨⟨hmk, h1⟩, h2⟩, h3⟩, h4⟩ := hck
  obtain ⟨m1, m2, m3, m4, m5, m6⟩ := g_mk_spec hmk
  cases hcl : g_cls[ci]? with
  | none => rw [hcl] at h4; cases h4
  | some q =>
    rw [hcl] at h4
    have h5 : q.1 = (g_m k').1.cls := Option.some.inj h4
    have hG : GoodIn lw_gd (wsV R_law j (g_m k').1.cls (g_m k').1 (g_ws k')) := g_goodIn (fun w hw => by
      rcases List.mem_append.mp hw with h | h
      · simp only [List.mem_cons, List.not_mem_nil, or_false] at h
        rcases h with rfl | rfl | rfl | rfl
        · exact g_wm h1
        · exact g_wm h2
        · exact g_wm h3
        · exact m2
      · exact m1 w h)
    have hrv := va_recv hKk.1 hH.2 (ci := ci) (q := q) hcl (g_wd_at hc9)
    rw [h5] at hrv
    have room : (g_rm 9 0 0).frames + 1 ≤ room_1.frames ∧ 8 + ((g_m k').2.2.1 + 11) + (g_rm 9 0 0).locals ≤ room_1.locals := ⟨by decide, by show 8 + ((g_m k').2.2.1 + 11) + 324 ≤ 362; omega⟩
    refine g_after (mc' := 0) (ms' := 0) (r := r) (va_runV (As := As.map (g_cv B)) (rest := r.map (g_cv B)) ⟨hx, hb, hml, hown, hts⟩ (hw l B D cA) (cwV v.toNat hts hG rfl rfl rfl ⟨rfl, m3, m4, m5⟩ room) ⟨g_Pc_blind, hrv, fun U hU hW => ⟨rfl, by rw [hU]; exact hH, g_KK.moved hW.alike hKk⟩⟩ rfl (by rw [List.length_map, hv]) hL rfl (lv_room (g_catsum B r hl9)) hd ⟨hcm, hsm⟩) hS (fun r9 h9 H1 locs1 hq hh hs => ?_)
    exact hq H1 locs1 hh hs
theorem lw_spec (hx : p.tables.exec = Jvm.exec) (hb : c.code = code) (hml : c.maxLocals = 4) (hts : ∀ w ∈ lw_gd, w.before #[Value.ref b] s = true) (hown : s.vm.findClass R_law = some m.cls) {B : Nat} (hKk : g_KK D cA s) (hH : g_RH B D cA h H) (hS : va_S (g_A B) s.heap H locs) (hL : ls.size = 4) {j k' a3 a mc' ms' : Nat} (hcm : cells + mc' ≤ 600000) (hsm : slots + ms' ≤ 7302250) (hck : g_cI R_law j k' a3 0 = true) {r : List Value} (hl9 : r.length ≤ 4) (hd : decode code pc = .ok (.invokespecial j, 3))
    (hw : Call k' 9 mc' ms' [.ref a] h (fun r9 h9 => ∀ (H1 : Heap) (locs1 : List Loc), g_RH B D cA h9 H1 → va_S (g_A B) s.heap H1 locs1 → W p l e room_1 s m #[Value.ref b] below meth c H1 locs1 (cells + mc') (slots + ms') Qf (F0 m (pc + 3) ls ((r9.toList ++ r).map (g_cv B))))) :
    W p l e room_1 s m #[Value.ref b] below meth c H locs cells slots Qf (F0 m pc ls (.ref (B + a) :: r.map (g_cv B))) := by
  unfold g_cI at hck
  simp only [Bool.and_eq_true, decide_eq_true_eq] at hck
  obtain ⟨⟨⟨⟨hmk, h1⟩, h2⟩, h3⟩, h4⟩ := hck
  obtain ⟨m1, m2, m3, m4, m5, m6⟩ := g_mk_spec hmk
  have hws : g_ws k' = Cond.code (g_m k').1 (g_m k').2.1 (g_m k').2.2.1 none :: lw_gd := by unfold g_ws; rw [h4]
  have room : (g_rm 9 mc' ms').frames + 1 ≤ room_1.frames ∧ 8 + ((g_m k').2.2.1 + 11) + (g_rm 9 mc' ms').locals ≤ room_1.locals := ⟨by show 9 + 1 ≤ 10; omega, by show 8 + ((g_m k').2.2.1 + 11) + 324 ≤ 362; omega⟩
  refine g_after (mc' := mc') (ms' := ms') (r := r) (va_runI (As := ([] : List Value)) (rest := r.map (g_cv B)) ⟨hx, hb, hml, hown, hts⟩ (hw l B D cA) (cwI 0 hts (g_goodIn m1) hws rfl rfl (hts _ m2) (hts _ (g_wm h1)) (hts _ (g_wm h2)) h3 ⟨m3, m4, m5⟩ room) ⟨g_Pc_blind, fun U hU hW => ⟨rfl, by rw [hU]; exact hH, g_KK.moved hW.alike hKk⟩⟩ rfl rfl hL rfl (lv_room (g_catsum B r hl9)) hd ⟨hcm, hsm⟩) hS (fun r9 h9 H1 locs1 hq hh hs => ?_)
  exact hq H1 locs1 hh hs
end LWF
theorem lw_and31 (x : Int32) : ∃ n : Nat, n < 32 ∧ x &&& 31 = nI n := by
  refine ⟨(x.toBitVec &&& 31#32).toNat, ?_, ?_⟩
  · rw [BitVec.toNat_and]
    have := Nat.and_le_right (n := x.toBitVec.toNat) (m := (31#32).toNat)
    have h : (31#32).toNat = 31 := by decide
    omega
  · apply Int32.toBitVec_inj.mp
    rw [Int32.toBitVec_and]
    show _ = BitVec.ofNat 32 _
    rw [BitVec.ofNat_toNat]
    simp
theorem lw_cmp (x : Int64) : lg_cmp x x = 0 := by
  unfold lg_cmp
  simp
