/-! ===== the law's loop, and its start ===== -/
section LWL
variable {p : Program} {l : Launch} {e : Env} {s : State} {m : MethodId} {below : List Frame} {meth : Method} {c : Code} {b L : Nat} {xs : Nat → Int32} {D : va_G} {cA : Nat → ClassId}
set_option maxHeartbeats 4000000 in
set_option maxRecDepth 100000 in
theorem law_loop (C0 : lw_At p s m meth c b L xs) (hts : ∀ w ∈ lw_gd, w.before #[Value.ref b] s = true) (hKk : g_KK D cA s) (hL : L ≤ 2048) : ∀ (n i : Nat), L + 4 ≤ i + n → ∀ (Wo : Wd) (h : g_H) (H : Heap) (locs : List Loc) (ls : Array Slot), wfW Wo → pens h 0 Wo → mrep h 208 Wo → g_RH s.heap.size D cA h H → va_S (g_A s.heap.size) s.heap H locs → lv_has ls 4 [(0, .ref b), (1, .ref (s.heap.size + 0)), (2, .ref (s.heap.size + 208)), (3, .int (nI i))] → i ≤ L + 4 → W p l e room_1 s m #[Value.ref b] below meth c H locs 218 6435 (lw_Z below #[Value.ref b] s) (F0 m 18 ls []) := by
  obtain ⟨hx, hb, hr, hml, hown, ht0, hX, hbl, hlk, hgv⟩ := id C0
  have hbA : ¬ g_A s.heap.size b := Nat.not_le.mpr hbl
  have done : ∀ (H : Heap) (locs : List Loc) (ls : Array Slot), va_S (g_A s.heap.size) s.heap H locs → W p l e room_1 s m #[Value.ref b] below meth c H locs 218 6435 (lw_Z below #[Value.ref b] s) (F0 m 925 ls []) := by
    intro H locs ls hS
    refine lv_iconst (v := 1) hx hb dw_925 (by decide) ?_
    refine va_forget (fun q hq => hS.2.2 q hq) ?_
    refine W.widen (k := 600000) (n := 7302250) (by omega) (by omega) ?_
    exact lw_ret hx hb hr hlk dw_926
  intro n
  induction n with
  | zero =>
    intro i hin Wo h H locs ls w hp hm hH hS hl hi
    refine lv_iload_n hx hb dw_18 rfl (lv_at hl 3 rfl) ?_
    refine lv_aload_n hx hb dw_19 rfl (lv_at hl 0 rfl) ?_
    refine va_slen hx hb hX hbl hbA hS dw_20 ?_
    refine lv_iconst (v := 4) hx hb dw_21 (by decide) ?_
    refine lv_isub hx hb dw_22 ?_
    refine lv_icmp_gt (tgt := 925) hx hb dw_23 (by decide) (fun _ => done _ _ _ hS) (fun q => absurd ?_ q)
    show I (L : Int) - I 4 < I (i : Int)
    rw [I_sub, I_lt (by omega) (by omega)]
    omega
  | succ n ih =>
    intro i hin Wo h H locs ls w hp hm hH hS hl hi
    refine lv_iload_n hx hb dw_18 rfl (lv_at hl 3 rfl) ?_
    refine lv_aload_n hx hb dw_19 rfl (lv_at hl 0 rfl) ?_
    refine va_slen hx hb hX hbl hbA hS dw_20 ?_
    refine lv_iconst (v := 4) hx hb dw_21 (by decide) ?_
    refine lv_isub hx hb dw_22 ?_
    refine lv_icmp_gt (tgt := 925) hx hb dw_23 (by decide) (fun _ => done _ _ _ hS) (fun q => ?_)
    have hi4 : i + 4 ≤ L := by
      by_cases c : i + 4 ≤ L
      · exact c
      · refine absurd ?_ q
        show I (L : Int) - I 4 < I (i : Int)
        rw [I_sub, I_lt (by omega) (by omega)]
        omega
    have K : ∀ (W' : Wd) (h' : g_H) (H' : Heap) (locs' : List Loc), wfW W' → pens h' 0 W' → mrep h' 208 W' → g_RH s.heap.size D cA h' H' → va_S (g_A s.heap.size) s.heap H' locs' → W p l e room_1 s m #[Value.ref b] below meth c H' locs' 218 6435 (lw_Z below #[Value.ref b] s) (F0 m 919 ls []) := by
      intro W' h' H' locs' w' hp' hm' hH' hS'
      refine lv_iinc (v := nI (i + 4)) (lv' := [(3, .int (nI (i + 4))), (0, .ref b), (1, .ref (s.heap.size + 0)), (2, .ref (s.heap.size + 208))]) hx hb dw_919 hl (k := 3) rfl (nI_add i 4) (by decide) rfl (fun ls hl => ?_)
      refine lv_goto (tgt := 18) hx hb dw_922 (by decide) ?_
      exact ih (i + 4) (by omega) W' h' H' locs' ls w' hp' hm' hH' hS' (lv_sub hl [1, 2, 3, 0] rfl) (by omega)
    refine lv_aload_n hx hb dw_26 rfl (lv_at hl 0 rfl) ?_
    refine lv_iload_n hx hb dw_27 rfl (lv_at hl 3 rfl) ?_
    refine va_sld hx hb hX hbl hbA hS (vp_in_nI (show i < L by omega) (by omega)) dw_28 ?_
    refine lv_bipush (v := 31) hx hb dw_29 (by decide) ?_
    refine lv_iand hx hb dw_31 ?_
    obtain ⟨k, hk, ek⟩ := lw_and31 (xs (nI i).toNatClampNeg)
    rw [ek]
    have hk2 : k = 0 ∨ k = 1 ∨ k = 2 ∨ k = 3 ∨ k = 4 ∨ k = 5 ∨ k = 6 ∨ k = 7 ∨ k = 8 ∨ k = 9 ∨ k = 10 ∨ k = 11 ∨ k = 12 ∨ k = 13 ∨ k = 14 ∨ k = 15 ∨ k = 16 ∨ k = 17 ∨ k = 18 ∨ k = 19 ∨ k = 20 ∨ k = 21 ∨ k = 22 ∨ k = 23 ∨ k = 24 ∨ k = 25 ∨ k = 26 ∨ k = 27 ∨ k = 28 ∨ k = 29 ∨ k = 30 ∨ k = 31 := by omega
    rcases hk2 with rfl | rfl | rfl | rfl | rfl | rfl | rfl | rfl | rfl | rfl | rfl | rfl | rfl | rfl | rfl | rfl | rfl | rfl | rfl | rfl | rfl | rfl | rfl | rfl | rfl | rfl | rfl | rfl | rfl | rfl | rfl | rfl
    · refine lv_tableIn (off := 136) (tgt := 168) hx hb dw_32 (by decide) (by decide) rfl (by decide) ?_
      exact law_c0 C0 hts hKk hL hi4 w hp hm hH hS hl K
    · refine lv_tableIn (off := 169) (tgt := 201) hx hb dw_32 (by decide) (by decide) rfl (by decide) ?_
      exact law_c1 C0 hts hKk hL hi4 w hp hm hH hS hl K
    · refine lv_tableIn (off := 202) (tgt := 234) hx hb dw_32 (by decide) (by decide) rfl (by decide) ?_
      exact law_c2 C0 hts hKk hL hi4 w hp hm hH hS hl K
    · refine lv_tableIn (off := 215) (tgt := 247) hx hb dw_32 (by decide) (by decide) rfl (by decide) ?_
      exact law_c3 C0 hts hKk hL hi4 w hp hm hH hS hl K
    · refine lv_tableIn (off := 228) (tgt := 260) hx hb dw_32 (by decide) (by decide) rfl (by decide) ?_
      exact law_c4 C0 hts hKk hL hi4 w hp hm hH hS hl K
    · refine lv_tableIn (off := 261) (tgt := 293) hx hb dw_32 (by decide) (by decide) rfl (by decide) ?_
      exact law_c5 C0 hts hKk hL hi4 w hp hm hH hS hl K
    · refine lv_tableIn (off := 284) (tgt := 316) hx hb dw_32 (by decide) (by decide) rfl (by decide) ?_
      exact law_c6 C0 hts hKk hL hi4 w hp hm hH hS hl K
    · refine lv_tableIn (off := 297) (tgt := 329) hx hb dw_32 (by decide) (by decide) rfl (by decide) ?_
      exact law_c7 C0 hts hKk hL hi4 w hp hm hH hS hl K
    · refine lv_tableIn (off := 340) (tgt := 372) hx hb dw_32 (by decide) (by decide) rfl (by decide) ?_
      exact law_c8 C0 hts hKk hL hi4 w hp hm hH hS hl K
    · refine lv_tableIn (off := 373) (tgt := 405) hx hb dw_32 (by decide) (by decide) rfl (by decide) ?_
      exact law_c9 C0 hts hKk hL hi4 w hp hm hH hS hl K
    · refine lv_tableIn (off := 396) (tgt := 428) hx hb dw_32 (by decide) (by decide) rfl (by decide) ?_
      exact law_c10 C0 hts hKk hL hi4 w hp hm hH hS hl K
    · refine lv_tableIn (off := 419) (tgt := 451) hx hb dw_32 (by decide) (by decide) rfl (by decide) ?_
      exact law_c11 C0 hts hKk hL hi4 w hp hm hH hS hl K
    · refine lv_tableIn (off := 452) (tgt := 484) hx hb dw_32 (by decide) (by decide) rfl (by decide) ?_
      exact law_c12 C0 hts hKk hL hi4 w hp hm hH hS hl K
    · refine lv_tableIn (off := 475) (tgt := 507) hx hb dw_32 (by decide) (by decide) rfl (by decide) ?_
      exact law_c13 C0 hts hKk hL hi4 w hp hm hH hS hl K
    · refine lv_tableIn (off := 498) (tgt := 530) hx hb dw_32 (by decide) (by decide) rfl (by decide) ?_
      exact law_c14 C0 hts hKk hL hi4 w hp hm hH hS hl K
    · refine lv_tableIn (off := 511) (tgt := 543) hx hb dw_32 (by decide) (by decide) rfl (by decide) ?_
      exact law_c15 C0 hts hKk hL hi4 w hp hm hH hS hl K
    · refine lv_tableIn (off := 544) (tgt := 576) hx hb dw_32 (by decide) (by decide) rfl (by decide) ?_
      exact law_c16 C0 hts hKk hL hi4 w hp hm hH hS hl K
    · refine lv_tableIn (off := 577) (tgt := 609) hx hb dw_32 (by decide) (by decide) rfl (by decide) ?_
      exact law_c17 C0 hts hKk hL hi4 w hp hm hH hS hl K
    · refine lv_tableIn (off := 610) (tgt := 642) hx hb dw_32 (by decide) (by decide) rfl (by decide) ?_
      exact law_c18 C0 hts hKk hL hi4 w hp hm hH hS hl K
    · refine lv_tableIn (off := 643) (tgt := 675) hx hb dw_32 (by decide) (by decide) rfl (by decide) ?_
      exact law_c19 C0 hts hKk hL hi4 w hp hm hH hS hl K
    · refine lv_tableIn (off := 686) (tgt := 718) hx hb dw_32 (by decide) (by decide) rfl (by decide) ?_
      exact law_c20 C0 hts hKk hL hi4 w hp hm hH hS hl K
    · refine lv_tableIn (off := 719) (tgt := 751) hx hb dw_32 (by decide) (by decide) rfl (by decide) ?_
      exact law_c21 C0 hts hKk hL hi4 w hp hm hH hS hl K
    · refine lv_tableIn (off := 752) (tgt := 784) hx hb dw_32 (by decide) (by decide) rfl (by decide) ?_
      exact law_c22 C0 hts hKk hL hi4 w hp hm hH hS hl K
    · refine lv_tableIn (off := 775) (tgt := 807) hx hb dw_32 (by decide) (by decide) rfl (by decide) ?_
      exact law_c23 C0 hts hKk hL hi4 w hp hm hH hS hl K
    · refine lv_tableIn (off := 798) (tgt := 830) hx hb dw_32 (by decide) (by decide) rfl (by decide) ?_
      exact law_c24 C0 hts hKk hL hi4 w hp hm hH hS hl K
    · refine lv_tableIn (off := 811) (tgt := 843) hx hb dw_32 (by decide) (by decide) rfl (by decide) ?_
      exact law_c25 C0 hts hKk hL hi4 w hp hm hH hS hl K
    · refine lv_tableIn (off := 824) (tgt := 856) hx hb dw_32 (by decide) (by decide) rfl (by decide) ?_
      exact law_c26 C0 hts hKk hL hi4 w hp hm hH hS hl K
    · refine lv_tableIn (off := 837) (tgt := 869) hx hb dw_32 (by decide) (by decide) rfl (by decide) ?_
      exact law_c27 C0 hts hKk hL hi4 w hp hm hH hS hl K
    · refine lv_tableIn (off := 860) (tgt := 892) hx hb dw_32 (by decide) (by decide) rfl (by decide) ?_
      exact law_c28 C0 hts hKk hL hi4 w hp hm hH hS hl K
    · refine lv_tableIn (off := 873) (tgt := 905) hx hb dw_32 (by decide) (by decide) rfl (by decide) ?_
      exact law_c29 C0 hts hKk hL hi4 w hp hm hH hS hl K
    · refine lv_tableOut (tgt := 919) hx hb dw_32 (by decide) (by decide) ?_
      exact K Wo h H locs w hp hm hH hS
    · refine lv_tableOut (tgt := 919) hx hb dw_32 (by decide) (by decide) ?_
      exact K Wo h H locs w hp hm hH hS
end LWL
set_option maxHeartbeats 4000000 in
set_option maxRecDepth 100000 in
theorem whole_start {p : Program} {e : Env} {s : State} {m : MethodId} {below : List Frame} {meth : Method} {c : Code} (l : Launch) (hflags : l.flags = flags0) {b L : Nat} {xs : Nat → Int32} (hL : L ≤ 2048) (C0 : lw_At p s m meth c b L xs) : W p l e room_1 s m #[Value.ref b] below meth c s.heap [] 0 0 (lw_Z below #[Value.ref b] s) (entryFrame m ([Value.ref b] : List Value).toArray 4) := by
  obtain ⟨hx, hb, hr, hml, hown, ht0, hX, hbl, hlk, hgv⟩ := id C0
  have hts : ∀ w ∈ lw_gd, w.before #[Value.ref b] s = true := fun w hw => ht0 w (List.mem_filter.mp hw).1
  obtain ⟨D, cA, hKk⟩ := lw_KK ht0
  have hS : va_S (g_A s.heap.size) s.heap s.heap [] := va_S.rf
  have hH : g_RH s.heap.size D cA [] s.heap := ⟨rfl, fun k q h => by simp [g_wd] at h⟩
  have hl := lv_entry ([.ref b]) (n := 4) (Nat.le_of_ble_eq_true rfl)
  rw [lg_entry_eq]
  generalize (lg_sl ([.ref b]) ++ List.replicate (4 - (lg_sl ([.ref b])).length) Slot.unset).toArray = ls at hl ⊢
  have hl : lv_has ls 4 [(0, .ref b)] := hl
  refine g_new (ci := 6) (N := 10) (a3 := 1014) hx hb hts hown hKk.1 hH hS (Nat.le_refl _) (by decide +kernel) (by show 0 + 1 ≤ 600000; omega) (by show 0 + 10 ≤ 7302250; omega) dw_0 (fun H1 hH1 hS1 => ?_)
  refine lv_dup hx hb dw_3 rfl ?_
  refine lw_spec (k' := Pens_init) (a3 := 1016) (a := 0) (mc' := 207) (ms' := 3282) (r := [.ref 0]) hx hb hml hts hown hKk hH1 hS1 hl.1 (by omega) (by omega) (by decide +kernel) (Nat.le_of_ble_eq_true rfl) dw_4 ?_
  refine Pens_init_c (by omega) rfl rfl (fun h2 x2 p2 H2 l2 hH2 hS2 => ?_)
  have hh2 : h2.length = 208 := x2.1
  refine lv_astore_n (lv' := [(1, .ref (s.heap.size + 0)), (0, .ref b)]) hx hb dw_7 rfl hl (by decide) rfl (fun ls hl => ?_)
  refine g_new (ci := 7) (N := 21) (a3 := 3139) hx hb hts hown hKk.1 hH2 hS2 (Nat.le_refl _) (by decide +kernel) (by show 0 + 1 + 207 + 1 ≤ 600000; omega) (by show 0 + 10 + 3282 + 21 ≤ 7302250; omega) dw_8 (fun H3 hH3 hS3 => ?_)
  rw [hh2]
  refine lv_dup hx hb dw_11 rfl ?_
  refine lw_spec (k' := Model_init) (a3 := 3141) (a := 208) (mc' := 9) (ms' := 3122) (r := [.ref 208]) hx hb hml hts hown hKk hH3 hS3 hl.1 (by omega) (by omega) (by decide +kernel) (Nat.le_of_ble_eq_true rfl) dw_12 ?_
  refine Mdl_init_c (by omega) (ap_r _ hh2.symm) (by rw [len_ap, hh2]) (fun h4 x4 m4 H4 l4 hH4 hS4 => ?_)
  refine lv_astore_n (lv' := [(2, .ref (s.heap.size + 208)), (1, .ref (s.heap.size + 0)), (0, .ref b)]) hx hb dw_15 rfl hl (by decide) rfl (fun ls hl => ?_)
  refine lv_iconst (v := nI 0) hx hb dw_16 (by decide) ?_
  refine lv_istore_n (lv' := [(3, .int (nI 0)), (2, .ref (s.heap.size + 208)), (1, .ref (s.heap.size + 0)), (0, .ref b)]) hx hb dw_17 rfl hl (by decide) rfl (fun ls hl => ?_)
  have p4 : pens h4 0 W0 := by
    have e4 : ∀ a, a < 208 → h4[a]? = h2[a]? := fun a ha => (x4.2 a ha).trans (ap_l _ (by omega))
    obtain ⟨σ, a0, a1, a2, a3, a4, a5, a6, a7⟩ := p2
    exact ⟨σ, (e4 0 (by omega)).trans a0, a1.pw (fun b h1 h2 => e4 b (by omega)), a2.pw (fun b h1 h2 => e4 b (by omega)), a3.pw (fun b h1 h2 => e4 b (by omega)), a4.pw (fun b h1 h2 => e4 b (by omega)), a5.pw (fun b h1 h2 => e4 b (by omega)), a6.pw (fun b h1 h2 => e4 b (by omega)), a7.pw (fun b h1 h2 => e4 b (by omega))⟩
  exact law_loop C0 hts hKk hL (L + 4) 0 (by omega) W0 h4 H4 l4 ls kp_W0 p4 m4 hH4 hS4 (lv_sub hl [3, 2, 1, 0] rfl) (by omega)
set_option maxHeartbeats 4000000 in
theorem lw_walk (l : Launch) (hflags : l.flags = flags0) (b : Addr) (xs : List Int32) : MetFree l x (headSpec (Jvm.Cond.code x code maxLocals ret :: tables_1) room_1) (lw_P b xs) (fun _ _ _ _ _ => True) lw_Q := by
  refine MetFree.of_bodyS (code := code) (maxLocals := maxLocals) (ret := ret) (by decide) ?_ ?_
  · intro args s m h hn
    obtain ⟨meth, c, h1, h2, h3, h4, h5, h6, -, -⟩ := Cond.code_spec hn (atoms_spec (ws := Jvm.Cond.code x code maxLocals ret :: tables_1) h _ List.mem_cons_self)
    exact ⟨meth, c, h1, h2, h3, h4, h5, h6⟩
  · intro p e s m args below meth c s₁ B hml0 hP _
    obtain ⟨rfl, hx, hbd, hgv⟩ := hP
    obtain ⟨scr, harrAt, hlist, hof, hsmall⟩ := hx
    obtain ⟨hcb, hkn, -, -⟩ := State.arrayAt?_spec harrAt
    have hown : s.vm.findClass R_law = some m.cls := findClass_of_methodNamed B.named
    have hts0 : ∀ c ∈ (Jvm.Cond.code x code maxLocals ret :: tables_1), c.before #[Value.ref b] s = true := atoms_spec (ws := Jvm.Cond.code x code maxLocals ret :: tables_1) B.pre
    have hts : ∀ w ∈ lw_tbl, w.before #[Value.ref b] s = true := k2_hts_sels lw_privs (fun w hw => hts0 w (List.mem_cons_of_mem _ hw)) lw_privs_ok
    have hml : c.maxLocals = 4 := B.maxLocals_eq (hts0 _ List.mem_cons_self)
    have X₀ : Stand p l e room_1 s m #[Value.ref b] below meth c s₁ [] 0 0 := Stand.of_body B
    have hh0 : s₁.heap = s.heap := by rw [B.state]; rfl
    have hsz : scr.slots.size = xs.length := by rw [← Array.length_toList, hlist, List.length_map]
    have hval : ∀ j : Nat, j < xs.length → scr.slots[j]? = some (.int (xs.getD j 0)) := fun j hj => by
      rw [← Array.getElem?_toList, hlist]
      simp [hj]
    have hbl : b < s.heap.size := (Array.getElem?_eq_some_iff.mp hcb).1
    have hX : va_X b xs.length (fun j => xs.getD j 0) s s.heap := ⟨scr, hcb, hof, hkn, hsz, hval⟩
    have K : W p l e room_1 s m #[Value.ref b] below meth c s₁.heap [] 0 0 (lw_Z below #[Value.ref b] s) (entryFrame m ([Value.ref b] : List Value).toArray 4) := by
      rw [hh0]
      exact whole_start l hflags hbd ⟨B.exec, B.bytes, B.returns, hml, hown, hts, hX, hbl, B.notSynchronized, hgv⟩
    obtain ⟨t, a1, o, b1, b2, b3⟩ := K s₁ rfl X₀
    exact ⟨t, o, a1, b1, b2, b3⟩
theorem lw_pre_spec {args : Array Value} {s : State} (h : (Jvm.Cond.and given_1 narrow_1).before args s = true) (hr : rest_1_c.before args s = true) : ∃ (b : Addr) (xs : List Int32), lw_P b xs args s := by
  have hs := flat_of_before _ h
  have hq := flat_of_before _ hr
  have hc : (Cond.count 1).before args s = true := hs _ (by decide +kernel)
  have harr : (Cond.arrayOf (.arg 0) .int).before args s = true := hs _ (by decide +kernel)
  have hle : (Cond.le (.length (.arg 0)) (.int 2048)).before args s = true := hs _ (by decide +kernel)
  have hlen : (Cond.isInt (.length (.arg 0))).before args s = true := hq _ (by decide +kernel)
  have hall : (Cond.all (.arg 0) (.isInt (.elem (.arg 0) (.index 0)))).before args s = true := hq _ (by decide +kernel)
  obtain ⟨b, xs, hb, hx⟩ := State.ints_of_pre rfl harr hlen hall
  have hsm : xs.length < 2 ^ 31 := hx.choose_spec.2.2.2
  have hev : (Term.length (.arg 0)).eval args s none [] s = some (.int xs.length.toInt32) := hx.length_eval hb
  have hv := Cond.le_ints hev (show (Term.int 2048).eval args s none [] s = some (.int 2048) from rfl)
  have hd : xs.length.toInt32 ≤ 2048 := by
    simpa [Cond.before, Cond.holds, hv] using hle
  have hN : xs.length ≤ 2048 := (Int32.ofNat_le_ofNat hsm (by decide)).mp (show Int32.ofNat xs.length ≤ Int32.ofNat 2048 from hd)
  exact ⟨b, xs, Cond.one_arg hc (show args[0]? = some (.ref b) from hb), hx, hN, h⟩
theorem lw_comes (l : Launch) (hflags : l.flags = flags0) : Comes l x (Jvm.Cond.code x code maxLocals ret :: tables_1) room_1 (fun tb e args s => Calls_1 tb e args s ∧ rest_1 tb e args s ∧ Pre_1 tb e args s)
    (fun _ _ args s o t => lw_Q args s o t) := by
  intro p e ha hc hk s m args below hf hfit hheap happ hpre
  obtain ⟨b, xs, hP⟩ := lw_pre_spec hpre.2.2 hpre.2.1
  obtain ⟨k, o, h1, h2, h3, hQ⟩ := lw_walk l hflags b xs p e ha hc hk s m args below hf ((Spec.applies_iff_loose hf).mp happ).1 hP trivial
  exact ⟨k, o, h1, h2, h3, hQ⟩
theorem lw_frame {s t : State} {o : Outcome} {args : Array Value} (h : Framed s o t [] 600000 7302250) :
    Framed s o t (fieldLocs frame_1_writes args s ++ arrayLocs frame_1_arrays args s ++ staticLocs frame_1_statics s) 600000 7302250 := h
theorem lw_limb (L : Cond) (hL : ∀ (args : Array Value) (s t : State), L.after args s (.returned (some (.int 1))) t = true) :
    ArmFor flags0 classFile x code maxLocals ret World_1 tables_1 room_1 Calls_1 rest_1 Pre_1
      (fun tb e a s o t => postC L tb e a s o t ∧ Framed s o t (fieldLocs frame_1_writes a s ++ arrayLocs frame_1_arrays a s ++ staticLocs frame_1_statics s) 600000 7302250) := by
  intro l hflags _ _ p e ha hc hk s m args below hf hfit hheap happ hpre
  obtain ⟨k, o, h1, h2, h3, rfl, hF⟩ := lw_comes l hflags p e ha hc hk s m args below hf hfit hheap happ hpre
  exact ⟨k, _, h1, h2, h3, hL args s _, lw_frame hF⟩
theorem i_vc : Claimed_1_1 ∧ Claimed_1_2 := ⟨lw_limb limb_1_1 (fun args s t => by simp [limb_1_1, Cond.after, Cond.holds, Cond.value]), lw_limb limb_1_2 (fun args s t => Cond.after_iff.mpr (by
  first | (rw [show limb_1_2 = Cond.eq .result (.int 1) from rfl, Cond.eq_ints (x := 1) (y := 1) rfl rfl]; simp; done) | (simp [limb_1_2, Cond.value, Term.eval]; done)))⟩
