/-! ===== pure: welding on the ends alone ===== -/
def lwr (Ts : List Stk) (E B Z : Nat → Int) : Prop := (∀ k, k < 2 * Ts.length → E k = if (sg Ts (k / 2)).2 = true then -1 else ep Ts k) ∧ (∀ k, eo Ts k → ez Ts k ≠ 2 → B k = eb Ts k) ∧ (∀ i, i < Ts.length → Z i = ((sg Ts i).1.length : Int))
theorem xo_hf (k : Nat) : xo k / 2 = k / 2 := by unfold xo; split <;> omega
theorem lwr.e {Ts : List Stk} {E B Z : Nat → Int} (h : lwr Ts E B Z) {k : Nat} (hk : eo Ts k) : E k = ep Ts k := by
  rw [h.1 k hk.1, if_neg (by rw [hk.2]; decide)]
theorem lwr.c {Ts : List Stk} {E B Z : Nat → Int} (h : lwr Ts E B Z) {k : Nat} (hk : k < 2 * Ts.length) (hc : ¬ eo Ts k) : E k = -1 := by
  rw [h.1 k hk, if_pos]
  cases hz : (sg Ts (k / 2)).2 with
  | true => rfl
  | false => exact absurd ⟨hk, hz⟩ hc
theorem lwr.nb {Ts : List Stk} {E B Z : Nat → Int} (w : wfD Ts) (h : lwr Ts E B Z) {k : Nat} (hk : eo Ts k) : (if Z (k / 2) = 2 then E (xo k) else B k) = eb Ts k := by
  have hl : k / 2 < Ts.length := by have := hk.1; omega
  have hz : Z (k / 2) = (ez Ts k : Int) := h.2.2 _ hl
  by_cases c : Z (k / 2) = 2
  · rw [if_pos c]
    have hx : eo Ts (xo k) := ⟨by have := hk.1; have := xo_hf k; omega, by rw [xo_hf]; exact hk.2⟩
    rw [h.e hx]
    have e2 : (sg Ts (k / 2)).1.length = 2 := by
      have : ez Ts k = (sg Ts (k / 2)).1.length := rfl
      omega
    unfold ep eb eI
    rw [xo_hf]
    rcases Nat.mod_two_eq_zero_or_one k with hm | hm
    · have h1 : xo k % 2 = 1 := by unfold xo; rw [if_pos hm]; omega
      rw [if_neg (by omega), if_pos hm, e2]
    · have h1 : xo k % 2 = 0 := by unfold xo; rw [if_neg (by omega)]; omega
      rw [if_pos h1, if_neg (by omega), e2]
  · rw [if_neg c]
    exact h.2.1 k hk (by omega)
theorem lwr.sete {Ts : List Stk} {E B Z : Nat → Int} (w : wfD Ts) (h : lwr Ts E B Z) {p : Nat} (hp : eo Ts p) (m : Int) : lwr (sete Ts p m) (ui E p m) B Z := by
  refine ⟨fun k hk => ?_, fun k hk hk2 => ?_, fun i hi => ?_⟩
  · rw [sete_len] at hk
    rw [(sete_2 m hp (k / 2)).1]
    by_cases e : k = p
    · rw [e, ui_s, if_neg (by rw [hp.2]; decide), sete_ep w m hp hp, if_pos rfl]
    · rw [ui_n _ _ e, h.1 k hk]
      by_cases z : (sg Ts (k / 2)).2 = true
      · rw [if_pos z, if_pos z]
      · rw [if_neg z, if_neg z, sete_ep w m hp ⟨hk, by simpa using z⟩, if_neg e]
  · have hk' := (sete_eo m hp k).mp hk
    rw [sete_ez m hp] at hk2
    rw [sete_eb w m hp hk', if_neg, h.2.1 k hk' hk2]
    intro q
    have : ez Ts k = ez Ts p := by unfold ez; rw [q.1]
    omega
  · rw [sete_len] at hi
    rw [(sete_2 m hp i).2]
    exact h.2.2 i hi
theorem lwr.wap {r : Int} {Ts : List Stk} {E B Z : Nat → Int} (w : wfD Ts) (h : lwr Ts E B Z) {p q : Nat} (hv : wv r Ts p q) : lwr (wap Ts p q) (ui (ui E p (mid (ep Ts p) (ep Ts q))) q (mid (ep Ts p) (ep Ts q))) B Z := by
  obtain ⟨w1, w2, w3⟩ := wap_ok w hv
  exact (h.sete w hv.2.1 _).sete w1 w3 _
def lbf (i j i' j' : Nat) : Prop := i' < i ∨ (i' = i ∧ j' < j)
/-- the best pair among those before (i, j) -/
def lsc (r : Int) (Ts : List Stk) (i j : Nat) (f s : Int) : Prop := (f = -1 ∧ s = -1 ∧ ∀ i' j', wv r Ts i' j' → ¬ lbf i j i' j') ∨ (∃ p q : Nat, f = p ∧ s = q ∧ lbf i j p q ∧ wv r Ts p q ∧ ∀ i' j', wv r Ts i' j' → lbf i j i' j' → wk Ts p q ≤ wk Ts i' j')
theorem lbf_s {i j i' j' : Nat} : lbf i (j + 1) i' j' ↔ lbf i j i' j' ∨ (i' = i ∧ j' = j) := by unfold lbf; omega
theorem lsc.skip {r : Int} {Ts : List Stk} {i j : Nat} {f s : Int} (h : lsc r Ts i j f s) (hn : ¬ wv r Ts i j) : lsc r Ts i (j + 1) f s := by
  rcases h with ⟨h1, h2, h3⟩ | ⟨p, q, h1, h2, h3, h4, h5⟩
  · refine Or.inl ⟨h1, h2, fun i' j' hv hb => ?_⟩
    rcases lbf_s.mp hb with x | ⟨x, y⟩
    · exact h3 i' j' hv x
    · rw [x, y] at hv; exact hn hv
  · refine Or.inr ⟨p, q, h1, h2, lbf_s.mpr (Or.inl h3), h4, fun i' j' hv hb => ?_⟩
    rcases lbf_s.mp hb with x | ⟨x, y⟩
    · exact h5 i' j' hv x
    · rw [x, y] at hv; exact absurd hv hn
theorem wv_20 {r : Int} {Ts : List Stk} (w : wfD Ts) {i j : Nat} (h : wv r Ts i j) : i < j ∧ j < 20 ∧ j < 2 * Ts.length := ⟨h.1, by have := h.2.2.1.1; have := w.1; omega, h.2.2.1.1⟩
theorem lsc.keep {r : Int} {Ts : List Stk} (w : wfD Ts) {i j p q : Nat} (h : lsc r Ts i j p q) (hv : wv r Ts i j) (hd : eD Ts p q ≤ eD Ts i j) : lsc r Ts i (j + 1) p q := by
  rcases h with ⟨h1, h2, h3⟩ | ⟨p', q', h1, h2, h3, h4, h5⟩
  · omega
  · obtain rfl : p = p' := by omega
    obtain rfl : q = q' := by omega
    refine Or.inr ⟨p, q, rfl, rfl, lbf_s.mpr (Or.inl h3), h4, fun i' j' hv' hb => ?_⟩
    rcases lbf_s.mp hb with x | ⟨x, y⟩
    · exact h5 i' j' hv' x
    · rw [x, y]
      have b1 := wv_20 w hv
      have b2 := wv_20 w h4
      unfold wk
      unfold lbf at h3
      omega
theorem lsc.take {r : Int} {Ts : List Stk} (w : wfD Ts) {i j : Nat} {f s : Int} (h : lsc r Ts i j f s) (hv : wv r Ts i j) (hd : ∀ p q : Nat, f = p → s = q → eD Ts i j < eD Ts p q) : lsc r Ts i (j + 1) i j := by
  have b1 := wv_20 w hv
  refine Or.inr ⟨i, j, rfl, rfl, lbf_s.mpr (Or.inr ⟨rfl, rfl⟩), hv, fun i' j' hv' hb => ?_⟩
  rcases lbf_s.mp hb with x | ⟨x, y⟩
  · rcases h with ⟨h1, h2, h3⟩ | ⟨p, q, h1, h2, h3, h4, h5⟩
    · exact absurd x (h3 i' j' hv')
    · have h6 := h5 i' j' hv' x
      have h7 := hd p q h1 h2
      unfold wk at h6 ⊢
      omega
  · rw [x, y]; omega
theorem lsc.row {r : Int} {Ts : List Stk} {i : Nat} {f s : Int} (h : lsc r Ts i (2 * Ts.length) f s) : lsc r Ts (i + 1) (i + 1 + 1) f s := by
  have key : ∀ i' j', wv r Ts i' j' → lbf (i + 1) (i + 1 + 1) i' j' → lbf i (2 * Ts.length) i' j' := by
    intro i' j' hv hb
    have h1 := hv.1
    have h2 := hv.2.2.1.1
    unfold lbf at hb ⊢
    omega
  rcases h with ⟨h1, h2, h3⟩ | ⟨p, q, h1, h2, h3, h4, h5⟩
  · exact Or.inl ⟨h1, h2, fun i' j' hv hb => h3 i' j' hv (key i' j' hv hb)⟩
  · exact Or.inr ⟨p, q, h1, h2, by unfold lbf at h3 ⊢; omega, h4, fun i' j' hv hb => h5 i' j' hv (key i' j' hv hb)⟩
theorem lsc.fin {r : Int} {Ts : List Stk} {i j : Nat} {f s : Int} (h : lsc r Ts i j f s) (hi : 2 * Ts.length ≤ i) : (f = -1 ∧ s = -1 ∧ ¬ ∃ p q, wv r Ts p q) ∨ (∃ p q : Nat, f = p ∧ s = q ∧ wb r Ts p q) := by
  have key : ∀ i' j', wv r Ts i' j' → lbf i j i' j' := fun i' j' hv => by
    have h1 := hv.1
    have h2 := hv.2.2.1.1
    unfold lbf
    omega
  rcases h with ⟨h1, h2, h3⟩ | ⟨p, q, h1, h2, h3, h4, h5⟩
  · exact Or.inl ⟨h1, h2, fun ⟨p, q, hv⟩ => h3 p q hv (key p q hv)⟩
  · exact Or.inr ⟨p, q, h1, h2, h4, fun i' j' hv => h5 i' j' hv (key i' j' hv)⟩
theorem I_rem_e {p : Int} (hp : pt p) : I p - I (p / 1000 * 1000) = I (p % 1000) := by rw [I_sub]; congr 1; omega
theorem I_hf {i : Nat} (h : i < 1000) : I (i : Int) / I 2 = I ((i / 2 : Nat) : Int) := by
  rw [I_div (by omega) (by omega), Int.tdiv_eq_ediv_of_nonneg (by omega)]; rfl
theorem I_hf2 {x : Int} (h : 0 ≤ x ∧ x ≤ 100000) : I x / I 2 = I (x / 2) := by
  rw [I_div (by omega) (by omega), Int.tdiv_eq_ediv_of_nonneg (by omega)]
theorem I_md {i : Nat} (h : i < 1000) : I (i : Int) - I ((i / 2 : Nat) : Int) * I 2 = I ((i % 2 : Nat) : Int) := by
  rw [I_mul, I_sub]; congr 1; omega
theorem I_md' {i : Nat} (h : i < 1000) : I (i : Int) - I (((i / 2 : Nat) : Int) * 2) = I ((i % 2 : Nat) : Int) := by
  rw [I_sub]; congr 1; omega
theorem ary.ne {h : g_H} {a b n : Nat} {f : Nat → Int} (v : g_C) (q : ary h b n f) (hab : a ≠ b) : ary (h.set a v) b n f := (h_ne v hab).trans q
