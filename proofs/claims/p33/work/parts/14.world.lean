/-! ===== the world, and what each call answers and leaves: the document in pure words ===== -/
abbrev Wd : Type := Sta × List Sta × List Int × (Int × Int × Int)
abbrev plc (x y : Int) : Prop := 0 ≤ x ∧ x ≤ 999 ∧ 0 ≤ y ∧ y ≤ 999
abbrev inS (Ss : List Stk) (s : Int) : Prop := 0 ≤ s ∧ s < Ss.length
def mkW (s : Sta) (W : Wd) : Wd := (s, hadd W.2.1 W.1, W.2.2)
def sp_down (W : Wd) (x y : Int) : Int × Wd := if ¬ plc x y then (-2, W) else if 0 < W.1.2.1.length then (-3, W) else if 10 ≤ W.1.1.length then (-4, W) else (W.1.1.length, mkW (W.1.1, (W.1.2.1 ++ [1000 * x + y], W.1.2.2)) W)
def sp_draw (W : Wd) (x y : Int) : Int × Wd := if ¬ plc x y then (-2, W) else if W.1.2.1.length = 0 ∨ pg W.1.2.1 (W.1.2.1.length - 1) = 1000 * x + y then (-3, W) else if 30 ≤ W.1.2.1.length then (-4, W) else (W.1.2.1.length + 1, mkW (W.1.1, (W.1.2.1 ++ [1000 * x + y], W.1.2.2)) W)
def sp_lift (W : Wd) : Int × Wd := if W.1.2.1.length = 0 then (-3, W) else if 2 ≤ W.1.2.1.length then (if 10 ≤ W.1.1.length then (-4, W) else (W.1.1.length, mkW (W.1.1 ++ [W.1.2], ([], false)) W)) else (-6, mkW (W.1.1, ([], false)) W)
def sp_line (W : Wd) : Int × Wd := (W.1.2.1.length, W)
def setD (W : Wd) (Ss : List Stk) : Wd := mkW (Ss, W.1.2) W
def sp_simp (W : Wd) (s t : Int) : Int × Wd := if ¬ inS W.1.1 s then (-1, W) else if ¬ (0 ≤ t ∧ t ≤ 200) then (-2, W) else ((smpS (sg W.1.1 s.toNat) t).1.length, setD W (W.1.1.set s.toNat (smpS (sg W.1.1 s.toNat) t)))
noncomputable def sp_weld (W : Wd) (r : Int) : Int × Wd := if ¬ (1 ≤ r ∧ r ≤ 999) then (-2, W) else ((weldF r W.1.1).1, setD W (weldF r W.1.1).2)
noncomputable def sp_join (W : Wd) : Int × Wd := ((joinF W.1.1).length, setD W (joinF W.1.1))
def mvx (dx dy p : Int) : Int := 1000 * (p / 1000 + dx) + (p % 1000 + dy)
def sp_move (W : Wd) (s dx dy : Int) : Int × Wd := if ¬ inS W.1.1 s then (-1, W) else if ¬ ((-999 ≤ dx ∧ dx ≤ 999) ∧ (-999 ≤ dy ∧ dy ≤ 999)) then (-2, W) else if ¬ (∀ k, k < (sg W.1.1 s.toNat).1.length → plc (pg (sg W.1.1 s.toNat).1 k / 1000 + dx) (pg (sg W.1.1 s.toNat).1 k % 1000 + dy)) then (-3, W) else (mvx dx dy (pg (sg W.1.1 s.toNat).1 0), setD W (W.1.1.set s.toNat ((sg W.1.1 s.toNat).1.map (mvx dx dy), (sg W.1.1 s.toNat).2)))
def tnx (c q p : Int) : Int := c / 1000 + (if q = 1 then -(p % 1000 - c % 1000) else if q = 2 then -(p / 1000 - c / 1000) else p % 1000 - c % 1000)
def tny (c q p : Int) : Int := c % 1000 + (if q = 1 then p / 1000 - c / 1000 else if q = 2 then -(p % 1000 - c % 1000) else -(p / 1000 - c / 1000))
def tnp (c q p : Int) : Int := 1000 * tnx c q p + tny c q p
def sp_turn (W : Wd) (s q : Int) : Int × Wd := if ¬ inS W.1.1 s then (-1, W) else if ¬ (1 ≤ q ∧ q ≤ 3) then (-2, W) else if ¬ (∀ k, k < (sg W.1.1 s.toNat).1.length → plc (tnx (pg (sg W.1.1 s.toNat).1 0) q (pg (sg W.1.1 s.toNat).1 k)) (tny (pg (sg W.1.1 s.toNat).1 0) q (pg (sg W.1.1 s.toNat).1 k))) then (-3, W) else (tnp (pg (sg W.1.1 s.toNat).1 0) q (pg (sg W.1.1 s.toNat).1 ((sg W.1.1 s.toNat).1.length - 1)), setD W (W.1.1.set s.toNat ((sg W.1.1 s.toNat).1.map (tnp (pg (sg W.1.1 s.toNat).1 0) q), (sg W.1.1 s.toNat).2)))
def sp_rev (W : Wd) (s : Int) : Int × Wd := if ¬ inS W.1.1 s then (-1, W) else (pg (sg W.1.1 s.toNat).1 ((sg W.1.1 s.toNat).1.length - 1), setD W (W.1.1.set s.toNat ((sg W.1.1 s.toNat).1.reverse, (sg W.1.1 s.toNat).2)))
def sp_close (W : Wd) (s : Int) : Int × Wd := if ¬ inS W.1.1 s then (-1, W) else if (sg W.1.1 s.toNat).2 = true ∨ (sg W.1.1 s.toNat).1.length < 3 ∨ pg (sg W.1.1 s.toNat).1 0 = pg (sg W.1.1 s.toNat).1 ((sg W.1.1 s.toNat).1.length - 1) then (-3, W) else ((sg W.1.1 s.toNat).1.length, setD W (W.1.1.set s.toNat ((sg W.1.1 s.toNat).1, true)))
def sp_split (W : Wd) (s k : Int) : Int × Wd := if ¬ (inS W.1.1 s ∧ 0 ≤ k ∧ k < (sg W.1.1 s.toNat).1.length) then (-1, W) else if (sg W.1.1 s.toNat).2 = true then (if 30 ≤ (sg W.1.1 s.toNat).1.length then (-4, W) else (W.1.1.length, setD W (W.1.1.set s.toNat ((sg W.1.1 s.toNat).1.drop k.toNat ++ (sg W.1.1 s.toNat).1.take (k.toNat + 1), false)))) else (if k = 0 ∨ k = (sg W.1.1 s.toNat).1.length - 1 then (-3, W) else if 10 ≤ W.1.1.length then (-4, W) else (W.1.1.length + 1, setD W (W.1.1.set s.toNat ((sg W.1.1 s.toNat).1.take (k.toNat + 1), false) ++ [((sg W.1.1 s.toNat).1.drop k.toNat, false)])))
def sp_rem (W : Wd) (s : Int) : Int × Wd := if ¬ inS W.1.1 s then (-1, W) else (W.1.1.length - 1, setD W (W.1.1.eraseIdx s.toNat))
def sp_top (W : Wd) (s : Int) : Int × Wd := if ¬ inS W.1.1 s then (-1, W) else (W.1.1.length - 1, setD W (W.1.1.eraseIdx s.toNat ++ [sg W.1.1 s.toNat]))
def sp_strokes (W : Wd) : Int × Wd := (W.1.1.length, W)
def sp_of (W : Wd) (s w : Int) : Int × Wd := (if ¬ inS W.1.1 s then -1 else if ¬ (0 ≤ w ∧ w ≤ 9) then -2 else figS (sg W.1.1 s.toNat) w.toNat, W)
def sp_point (W : Wd) (s k : Int) : Int × Wd := (if ¬ (inS W.1.1 s ∧ 0 ≤ k ∧ k < (sg W.1.1 s.toNat).1.length) then -1 else pg (sg W.1.1 s.toNat).1 k.toNat, W)
def sp_cross (W : Wd) (a b : Int) : Int × Wd := (if ¬ (inS W.1.1 a ∧ inS W.1.1 b) then -1 else if a = b then -2 else cx2 (sg W.1.1 a.toNat) (sg W.1.1 b.toNat), W)
/-- the nearest point: over a stroke's points, over the strokes; what was found so far, and its distance -/
def nrb (p : Int) (c : Int) (f : Nat → Int) (n : Nat) (acc : Int × Int) : Int × Int := match n with
  | 0 => acc
  | n + 1 => if (nrb p c f n acc).1 = -6 ∨ sqd p (f n) < (nrb p c f n acc).2 then (100 * c + n, sqd p (f n)) else nrb p c f n acc
def nra (p : Int) (Ss : List Stk) (n : Nat) : Int × Int := match n with
  | 0 => (-6, 0)
  | n + 1 => nrb p n (pg (sg Ss n).1) (sg Ss n).1.length (nra p Ss n)
def sp_near (W : Wd) (x y : Int) : Int × Wd := (if ¬ plc x y then -2 else (nra (1000 * x + y) W.1.1 W.1.1.length).1, W)
def sp_ins (W : Wd) (s x y : Int) : Int × Wd := (if ¬ inS W.1.1 s then -1 else if ¬ plc x y then -2 else if (sg W.1.1 s.toNat).2 = false then -3 else insS (sg W.1.1 s.toNat) x y % 2, W)
def sp_ifs (W : Wd) (s t : Int) : Int × Wd := (if ¬ inS W.1.1 s then -1 else if ¬ (0 ≤ t ∧ t ≤ 200) then -2 else (smpS (sg W.1.1 s.toNat) t).1.length, W)
def tolf (S : Stk) (n : Int) (m t : Nat) : Int := match m with
  | 0 => -6
  | m + 1 => if ((smpS S t).1.length : Int) ≤ n then t else tolf S n m (t + 1)
def sp_tol (W : Wd) (s n : Int) : Int × Wd := (if ¬ inS W.1.1 s then -1 else if ¬ (2 ≤ n ∧ n ≤ 30) then -2 else tolf (sg W.1.1 s.toNat) n 201 0, W)
noncomputable def sp_ifw (W : Wd) (r : Int) : Int × Wd := (if ¬ (1 ≤ r ∧ r ≤ 999) then -2 else (joinF (weldF r W.1.1).2).length, W)
def sp_type (W : Wd) (c : Int) : Int × Wd := if ¬ (33 ≤ c ∧ c ≤ 126) then (-2, W) else if 80 ≤ W.2.2.1.length then (-4, W) else (W.2.2.1.length + 1, (W.1, W.2.1, W.2.2.1 ++ [c], W.2.2.2))
def sp_clear (W : Wd) : Int × Wd := (W.2.2.1.length, (W.1, W.2.1, [], W.2.2.2))
def sp_syn (W : Wd) : Int × Wd := (errT W.2.2.1, W)
def frb (R : List Stk) (m i : Nat) : Int × Int := match m with
  | 0 => (-6, -6)
  | m + 1 => if rep (sg R i) ≠ -6 then ((i : Int), rep (sg R i)) else frb R m (i + 1)
def flW (W : Wd) (l : Int × Int × Int) : Wd := (W.1, W.2.1, W.2.2.1, l)
def sp_read (W : Wd) : Int × Wd := if errT W.2.2.1 ≠ -6 then (-5, flW W (-5, -6, -6)) else if 0 < W.1.2.1.length then (-3, flW W (-3, -6, -6)) else if (frb (prsT W.2.2.1) (prsT W.2.2.1).length 0).1 ≠ -6 then (-3, flW W (-3, frb (prsT W.2.2.1) (prsT W.2.2.1).length 0)) else if 10 < W.1.1.length + (prsT W.2.2.1).length then (-4, flW W (-4, -6, -6)) else ((prsT W.2.2.1).length, ((W.1.1 ++ prsT W.2.2.1, W.1.2), hadd W.2.1 W.1, [], W.2.2.2))
def sp_prob (W : Wd) (w : Int) : Int × Wd := (if w = 0 then W.2.2.2.1 else if w = 1 then W.2.2.2.2.1 else if w = 2 then W.2.2.2.2.2 else -1, W)
def sp_undo (W : Wd) : Int × Wd := if W.2.1.length = 0 then (-3, W) else (W.2.1.length - 1, (hg W.2.1 (W.2.1.length - 1), W.2.1.dropLast, W.2.2))
def hsh (f : Nat → Int) (n : Nat) (x : Int) : Int := match n with
  | 0 => x
  | n + 1 => 31 * hsh f n x + f n
def dg1 (S : Stk) (x : Int) : Int := hsh (pg S.1) S.1.length (hsh (figS S) 10 x)
def dg2 (Ss : List Stk) (n : Nat) (x : Int) : Int := match n with
  | 0 => x
  | n + 1 => dg1 (sg Ss n) (dg2 Ss n x)
def dg3 (Ss : List Stk) (n : Nat) (x : Int) : Int := match n with
  | 0 => x
  | n + 1 => hsh (fun k => cx2 (sg Ss n) (sg Ss (n + 1 + k))) (Ss.length - (n + 1)) (dg3 Ss n x)
def sp_dig (W : Wd) : Int × Wd := (dg3 W.1.1 W.1.1.length (dg2 W.1.1 W.1.1.length (31 * (31 * 866 + W.1.2.1.length) + W.1.1.length)), W)
/-! what holds in every world -/
def wfP (pn : Stk) : Prop := pn.1.length ≤ 30 ∧ stP pn.1 ∧ (∀ i, i + 1 < pn.1.length → pg pn.1 i ≠ pg pn.1 (i + 1)) ∧ pn.2 = false
def wfA (s : Sta) : Prop := wfD s.1 ∧ wfP s.2
def wfW (W : Wd) : Prop := wfA W.1 ∧ (W.2.1.length ≤ 6 ∧ ∀ i, i < W.2.1.length → wfA (hg W.2.1 i)) ∧ wfT W.2.2.1
/-! the object's cells -/
def pns (h : g_H) (P : Nat) (σ : Nat → Nat) (W : Wd) : Prop := h[P]? = some (.inr (.inr (6, [.ref (P + 1), .ref (P + 25), .ref (P + 49), .ref (P + 51), .ref (P + 197), .ref (P + 199), .ref (P + 204), .int (I W.2.2.2.1), .int (I W.2.2.2.2.1), .int (I W.2.2.2.2.2)]))) ∧ drw h (P + 1) σ W.1.1 W.1.2 ∧ drX h (P + 25) ∧ stX h (P + 49) ∧ hisL h (P + 51) W.2.1 ∧ thnX h (P + 197) ∧ wlX h (P + 199) ∧ txt h (P + 204) W.2.2.1
def pens (h : g_H) (P : Nat) (W : Wd) : Prop := ∃ σ, pns h P σ W
theorem pns.kp {h h' : g_H} {P lo hi : Nat} {σ : Nat → Nat} {W : Wd} (q : pns h P σ W) (c : chg lo hi h h') (ho : P + 208 ≤ lo ∨ hi ≤ P) : pns h' P σ W := by
  obtain ⟨p0, p1, p2, p3, p4, p5, p6, p7⟩ := q
  exact ⟨(c.at (by omega)).trans p0, p1.kp c (by omega), p2.kp c (by omega), p3.kp c (by omega), p4.kp c (by omega), p5.kp c (by omega), p6.kp c (by omega), p7.kp c (by omega)⟩
theorem pens.kp {h h' : g_H} {P lo hi : Nat} {W : Wd} (q : pens h P W) (c : chg lo hi h h') (ho : P + 208 ≤ lo ∨ hi ≤ P) : pens h' P W := by
  obtain ⟨σ, q⟩ := q
  exact ⟨σ, q.kp c ho⟩
theorem pns.sv {h h' : g_H} {P : Nat} {σ : Nat → Nat} {s : Sta} {Hs Hs' : List Sta} {r : List Int × (Int × Int × Int)} (q : pns h P σ (s, Hs, r)) (c : chg (P + 51) (P + 197) h h') (b : hisL h' (P + 51) Hs') : pns h' P σ (s, Hs', r) := by
  obtain ⟨p0, p1, p2, p3, p4, p5, p6, p7⟩ := q
  exact ⟨(c.at (by omega)).trans p0, p1.kp c (by omega), p2.kp c (by omega), p3.kp c (by omega), b, p5.kp c (by omega), p6.kp c (by omega), p7.kp c (by omega)⟩
theorem pns.dr {h h' : g_H} {P : Nat} {σ σ' : Nat → Nat} {s s' : Sta} {r : List Sta × List Int × (Int × Int × Int)} (q : pns h P σ (s, r)) (c : chg (P + 1) (P + 25) h h') (b : drw h' (P + 1) σ' s'.1 s'.2) : pns h' P σ' (s', r) := by
  obtain ⟨p0, p1, p2, p3, p4, p5, p6, p7⟩ := q
  exact ⟨(c.at (by omega)).trans p0, b, p2.kp c (by omega), p3.kp c (by omega), p4.kp c (by omega), p5.kp c (by omega), p6.kp c (by omega), p7.kp c (by omega)⟩
theorem pns.tr {h h' : g_H} {P : Nat} {σ : Nat → Nat} {W : Wd} (q : pns h P σ W) (c : chg (P + 25) (P + 49) h h') (b : drX h' (P + 25)) : pns h' P σ W := by
  obtain ⟨p0, p1, p2, p3, p4, p5, p6, p7⟩ := q
  exact ⟨(c.at (by omega)).trans p0, p1.kp c (by omega), b, p3.kp c (by omega), p4.kp c (by omega), p5.kp c (by omega), p6.kp c (by omega), p7.kp c (by omega)⟩
theorem pns.sp {h h' : g_H} {P : Nat} {σ : Nat → Nat} {W : Wd} (q : pns h P σ W) (c : chg (P + 49) (P + 51) h h') (b : stX h' (P + 49)) : pns h' P σ W := by
  obtain ⟨p0, p1, p2, p3, p4, p5, p6, p7⟩ := q
  exact ⟨(c.at (by omega)).trans p0, p1.kp c (by omega), p2.kp c (by omega), b, p4.kp c (by omega), p5.kp c (by omega), p6.kp c (by omega), p7.kp c (by omega)⟩
theorem pns.th {h h' : g_H} {P : Nat} {σ : Nat → Nat} {W : Wd} (q : pns h P σ W) (c : chg (P + 197) (P + 199) h h') (b : thnX h' (P + 197)) : pns h' P σ W := by
  obtain ⟨p0, p1, p2, p3, p4, p5, p6, p7⟩ := q
  exact ⟨(c.at (by omega)).trans p0, p1.kp c (by omega), p2.kp c (by omega), p3.kp c (by omega), p4.kp c (by omega), b, p6.kp c (by omega), p7.kp c (by omega)⟩
theorem pns.we {h h' : g_H} {P : Nat} {σ : Nat → Nat} {W : Wd} (q : pns h P σ W) (c : chg (P + 199) (P + 204) h h') (b : wlX h' (P + 199)) : pns h' P σ W := by
  obtain ⟨p0, p1, p2, p3, p4, p5, p6, p7⟩ := q
  exact ⟨(c.at (by omega)).trans p0, p1.kp c (by omega), p2.kp c (by omega), p3.kp c (by omega), p4.kp c (by omega), p5.kp c (by omega), b, p7.kp c (by omega)⟩
theorem pns.tx {h h' : g_H} {P : Nat} {σ : Nat → Nat} {s : Sta} {Hs : List Sta} {T T' : List Int} {l : Int × Int × Int} (q : pns h P σ (s, Hs, T, l)) (c : chg (P + 204) (P + 208) h h') (b : txt h' (P + 204) T') : pns h' P σ (s, Hs, T', l) := by
  obtain ⟨p0, p1, p2, p3, p4, p5, p6, p7⟩ := q
  exact ⟨(c.at (by omega)).trans p0, p1.kp c (by omega), p2.kp c (by omega), p3.kp c (by omega), p4.kp c (by omega), p5.kp c (by omega), p6.kp c (by omega), b⟩
theorem pns.st {h h' : g_H} {P i : Nat} {σ : Nat → Nat} {Ss : List Stk} {pn S : Stk} {r : List Sta × List Int × (Int × Int × Int)} (q : pns h P σ ((Ss, pn), r)) (hi : i < Ss.length) (c : chg (σ i) (σ i + 2) h h') (b : stL h' (σ i) S) : pns h' P σ ((Ss.set i S, pn), r) := by
  have h0 : Ss.length ≤ 10 := q.2.1.len
  have h1 := q.2.1.sl (i := i) (by omega)
  exact q.dr (s' := (Ss.set i S, pn)) (c.wd (by omega) (by omega)) (q.2.1.up hi c b)
theorem pns.pn {h h' : g_H} {P : Nat} {σ : Nat → Nat} {Ss : List Stk} {pn S : Stk} {r : List Sta × List Int × (Int × Int × Int)} (q : pns h P σ ((Ss, pn), r)) (c : chg (P + 1 + 2) (P + 1 + 4) h h') (b : stL h' (P + 1 + 2) S) : pns h' P σ ((Ss, S), r) := q.dr (s' := (Ss, S)) (c.wd (by omega) (by omega)) (q.2.1.upn c b)
theorem pns.g {h : g_H} {P : Nat} {σ : Nat → Nat} {Ss : List Stk} {pn : Stk} {Hs : List Sta} {T : List Int} {l : Int × Int × Int} (q : pns h P σ ((Ss, pn), Hs, T, l)) : h[P]? = some (.inr (.inr (6, [.ref (P + 1), .ref (P + 25), .ref (P + 49), .ref (P + 51), .ref (P + 197), .ref (P + 199), .ref (P + 204), .int (I l.1), .int (I l.2.1), .int (I l.2.2)]))) ∧ drw h (P + 1) σ Ss pn ∧ drX h (P + 25) ∧ stX h (P + 49) ∧ hisL h (P + 51) Hs ∧ thnX h (P + 197) ∧ wlX h (P + 199) ∧ txt h (P + 204) T := q
theorem wfW.g {Ss : List Stk} {pn : Stk} {Hs : List Sta} {T : List Int} {l : Int × Int × Int} (w : wfW ((Ss, pn), Hs, T, l)) : wfD Ss ∧ wfP pn ∧ Hs.length ≤ 6 ∧ (∀ i, i < Hs.length → wfA (hg Hs i)) ∧ wfT T := ⟨w.1.1, w.1.2, w.2.1.1, w.2.1.2, w.2.2⟩
theorem hisL.c {h : g_H} {a : Nat} {Hs : List Sta} (q : hisL h a Hs) : h[a]? = some (.inr (.inr (1, [.ref (a + 1), .int (I (Hs.length : Int))]))) := by
  obtain ⟨τ, q⟩ := q
  exact q.2.1
theorem thnX.c {h : g_H} {a : Nat} (q : thnX h a) : h[a]? = some (.inr (.inr (4, [.ref (a + 1)]))) := by
  obtain ⟨g, q⟩ := q
  exact q.1
theorem thn.c {h : g_H} {a : Nat} {g : Nat → Int} (q : thn h a g) : h[a]? = some (.inr (.inr (4, [.ref (a + 1)]))) := q.1
theorem wlX.c {h : g_H} {a : Nat} (q : wlX h a) : ∃ x, h[a]? = some (.inr (.inr (5, x))) := by
  obtain ⟨X, Y, B, Z, n, q⟩ := q
  exact ⟨_, q.1⟩
theorem stL.c {h : g_H} {s : Nat} {S : Stk} (q : stL h s S) : h[s]? = some (.inr (.inr (2, [.ref (s + 1), .int (I (S.1.length : Int)), .int (I (sz S.2))]))) := by
  obtain ⟨f, q, -⟩ := q
  exact q.1
theorem drw.c {h : g_H} {d : Nat} {σ : Nat → Nat} {Ss : List Stk} {pn : Stk} (q : drw h d σ Ss pn) : h[d]? = some (.inr (.inr (0, [.ref (d + 1), .ref (d + 2), .int (I (Ss.length : Int))]))) := q.2.1
