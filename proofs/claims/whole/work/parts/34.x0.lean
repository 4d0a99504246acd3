/-! the class's world: cells by their roles (k, i); P says where each lies -/
def u2 {α : Type} (f : Nat → Nat → α) (k i : Nat) (v : α) : Nat → Nat → α := fun k' i' => if k' = k ∧ i' = i then v else f k' i'
theorem u2_s {α : Type} (f : Nat → Nat → α) (k i : Nat) (v : α) : u2 f k i v k i = v := if_pos ⟨rfl, rfl⟩
theorem u2_k {α : Type} (f : Nat → Nat → α) {k i k' i' : Nat} (v : α) (h : k' ≠ k) : u2 f k i v k' i' = f k' i' := if_neg (fun e => h e.1)
theorem u2_i {α : Type} (f : Nat → Nat → α) {k i k' i' : Nat} (v : α) (h : i' ≠ i) : u2 f k i v k' i' = f k' i' := if_neg (fun e => h e.2)
def uL (L : Nat → Nat → Prop) (k i : Nat) : Nat → Nat → Prop := fun k' i' => (k' = k ∧ i' = i) ∨ L k' i'
def XG (h0 : am_H) (a b : Nat) (h : am_H) (L : Nat → Nat → Prop) (C : Nat → Nat → am_C) (P : Nat → Nat → Nat) : Prop :=
  (∀ k i, L k i → h[P k i]? = some (C k i)) ∧
  (∀ k i k' i', L k i → L k' i' → P k i = P k' i' → k = k' ∧ i = i') ∧
  (∀ k i, L k i → 3 ≤ P k i ∧ (P k i < 27 ∨ 64 ≤ P k i)) ∧
  (h.length ≤ h0.length + a ∧ h0.length ≤ h.length ∧ am_sz h ≤ am_sz h0 + b) ∧
  (∀ j, (j < 3 ∨ (27 ≤ j ∧ j < 64)) → h[j]? = h0[j]?) ∧
  64 ≤ h.length ∧
  h[1]? = some (.inl (8, 0, .inr (.inr (.inr (.inr (fun _ => none))))))
theorem x_lt {h : am_H} {n : Nat} {c : am_C} (e : h[n]? = some c) : n < h.length := (List.getElem?_eq_some_iff.mp e).1
theorem XG.st {h0 h : am_H} {a b k i : Nat} {L : Nat → Nat → Prop} {C : Nat → Nat → am_C} {P : Nat → Nat → Nat} {c : am_C} (g : XG h0 a b h L C P) (l : L k i) (hs : am_sl c = am_sl (C k i)) : XG h0 a b (h.set (P k i) c) L (u2 C k i c) P := by
  obtain ⟨g1, g2, g3, g4, g5, g6, g7⟩ := g
  refine ⟨fun k' i' l' => ?_, g2, g3, ?_, fun j hj => ?_, by rw [List.length_set]; exact g6, ?_⟩
  · by_cases e : k' = k ∧ i' = i
    · obtain ⟨rfl, rfl⟩ := e
      rw [u2_s, List.getElem?_set_self (x_lt (g1 _ _ l))]
    · rw [show u2 C k i c k' i' = C k' i' from if_neg e, List.getElem?_set_ne (fun d => e ((g2 _ _ _ _ l' l d.symm)))]
      exact g1 _ _ l'
  · rw [List.length_set, am_sz_set (g1 _ _ l) hs]
    exact g4
  · have := g3 _ _ l
    rw [List.getElem?_set_ne (by omega)]
    exact g5 j hj
  · have := g3 _ _ l
    rw [List.getElem?_set_ne (by omega)]
    exact g7
theorem XG.nw {h0 h : am_H} {a b : Nat} {L : Nat → Nat → Prop} {C : Nat → Nat → am_C} {P : Nat → Nat → Nat} (g : XG h0 a b h L C P) (k i : Nat) (c : am_C) : XG h0 (a + 1) (b + am_sl c) (h ++ [c]) (uL L k i) (u2 C k i c) (u2 P k i h.length) := by
  obtain ⟨g1, g2, g3, g4, g5, g6, g7⟩ := g
  have hlt : ∀ k' i', L k' i' → P k' i' < h.length := fun k' i' l => x_lt (g1 _ _ l)
  have hcs : ∀ k' i', uL L k i k' i' → (k' = k ∧ i' = i ∧ u2 P k i h.length k' i' = h.length ∧ u2 C k i c k' i' = c) ∨ (¬ (k' = k ∧ i' = i) ∧ L k' i' ∧ u2 P k i h.length k' i' = P k' i' ∧ u2 C k i c k' i' = C k' i') := by
    intro k' i' l
    by_cases e : k' = k ∧ i' = i
    · exact Or.inl ⟨e.1, e.2, if_pos e, if_pos e⟩
    · exact Or.inr ⟨e, l.resolve_left e, if_neg e, if_neg e⟩
  refine ⟨fun k' i' l => ?_, fun k1 i1 k2 i2 l1 l2 e => ?_, fun k' i' l => ?_, ?_, fun j hj => ?_, ?_, ?_⟩
  · rcases hcs k' i' l with ⟨-, -, e1, e2⟩ | ⟨-, l', e1, e2⟩
    · rw [e1, e2, List.getElem?_append_right (Nat.le_refl _), Nat.sub_self]
      rfl
    · rw [e1, e2, List.getElem?_append_left (hlt _ _ l')]
      exact g1 _ _ l'
  · rcases hcs k1 i1 l1 with ⟨a1, b1, e1, -⟩ | ⟨-, m1, e1, -⟩ <;> rcases hcs k2 i2 l2 with ⟨a2, b2, e2, -⟩ | ⟨-, m2, e2, -⟩
    · exact ⟨a1.trans a2.symm, b1.trans b2.symm⟩
    · have := hlt _ _ m2
      omega
    · have := hlt _ _ m1
      omega
    · rw [e1, e2] at e
      exact g2 _ _ _ _ m1 m2 e
  · rcases hcs k' i' l with ⟨-, -, e1, -⟩ | ⟨-, l', e1, -⟩
    · omega
    · rw [e1]
      exact g3 _ _ l'
  · rw [am_sz_push, List.length_append, List.length_singleton]
    omega
  · rw [List.getElem?_append_left (by omega)]
    exact g5 j hj
  · rw [List.length_append]
    omega
  · rw [List.getElem?_append_left (by omega)]
    exact g7
theorem XG.cg {h0 h : am_H} {a b a' b' : Nat} {L L' : Nat → Nat → Prop} {C C' : Nat → Nat → am_C} {P : Nat → Nat → Nat} (g : XG h0 a b h L C P) (ha : a ≤ a') (hb : b ≤ b') (hL : ∀ k i, L' k i → L k i ∧ C' k i = C k i) : XG h0 a' b' h L' C' P := by
  obtain ⟨g1, g2, g3, g4, g5, g6, g7⟩ := g
  exact ⟨fun k i l => by rw [(hL k i l).2]; exact g1 _ _ (hL k i l).1, fun k i k' i' l l' => g2 _ _ _ _ (hL _ _ l).1 (hL _ _ l').1, fun k i l => g3 _ _ (hL _ _ l).1, by omega, g5, g6, g7⟩
theorem XG.rb {h0 h : am_H} {a b : Nat} {L : Nat → Nat → Prop} {C : Nat → Nat → am_C} {P : Nat → Nat → Nat} (g : XG h0 a b h L C P) : XG h 0 0 h L C P := ⟨g.1, g.2.1, g.2.2.1, by omega, fun _ _ => rfl, g.2.2.2.2.2⟩
theorem XG.tr {h0 h1 h : am_H} {a b a' b' : Nat} {L L' : Nat → Nat → Prop} {C C' : Nat → Nat → am_C} {P P' : Nat → Nat → Nat} (g0 : XG h0 a b h1 L C P) (g : XG h1 a' b' h L' C' P') : XG h0 (a + a') (b + b') h L' C' P' := by
  have e0 := g0.2.2.2.1
  have e1 := g.2.2.2.1
  exact ⟨g.1, g.2.1, g.2.2.1, by omega, fun j hj => (g.2.2.2.2.1 j hj).trans (g0.2.2.2.2.1 j hj), g.2.2.2.2.2⟩
theorem XG.at {h0 h : am_H} {a b : Nat} {L : Nat → Nat → Prop} {C : Nat → Nat → am_C} {P : Nat → Nat → Nat} (g : XG h0 a b h L C P) {k i : Nat} (l : L k i) : h[P k i]? = some (C k i) := g.1 k i l
/-- the last day of a cry that counts, or -9 -/
def x_ldf (aa : Nat → Nat → Int32) (n q : Int32) (i : Nat) (v : Int32) : Int32 := if x_cf aa n q i = true then aa 35 i else v
def x_ld (aa : Nat → Nat → Int32) (n q : Int32) : Nat → Int32 := x_it (x_ldf aa n q) (-9)
abbrev x_P := Nat → Nat → Nat
/-- how often changed, room, squares measured, the table's length, the table -/
abbrev x_D := (Nat → Int32) × (Nat → Nat) × Nat × Nat × (Nat → Int32)
def xn (cc : Nat → Nat) (q : Nat) : Nat := match q with
  | 0 => cc 3
  | 1 => cc 8
  | 2 => cc 20
  | 3 => cc 28
  | 4 => cc 31
  | _ => cc 38
def xb (P : x_P) (D : x_D) (q : Nat) : Nat := if D.2.1 q = 0 then 1 else P 8 q
def x_sz (aa : Nat → Nat → Int32) (s : Nat) : Int32 := if aa 13 s < 0 then -1 else aa 13 s
def x_row (aa : Nat → Nat → Int32) (s : Nat) : Nat → Int32 := fun k => if k < 80 then aa 14 (80 * s + k) else 0
def x_cnr (cc : Nat → Nat) (aa : Nat → Nat → Int32) (n : Nat) : Nat → Int32 := fun q => if q < 10 then x_cn aa (nI n) (nI q) (cc 31) else 0
def x_ldr (cc : Nat → Nat) (aa : Nat → Nat → Int32) (n : Nat) : Nat → Int32 := fun q => if q < 10 then x_ld aa (nI n) (nI q) (cc 31) else 0
def x_els (cc : Nat → Nat) (P : x_P) (q : Nat) : Nat → Option Nat := fun j => if j < xn cc q then some (P q j) else none
def x_pin (k i : Nat) : Nat := match k with
  | 10 => 3
  | 11 => 4 + i
  | 12 => 10
  | 13 => 11 + 2 * i
  | 14 => 12 + 2 * i
  | 15 => 19
  | 16 => 20
  | 17 => 21
  | 18 => 22
  | 19 => 23
  | 20 => 25
  | _ => 26
def xlive (cc : Nat → Nat) (D : x_D) (k i : Nat) : Prop := match k with
  | 0 => i < cc 3
  | 1 => i < cc 8
  | 2 => i < cc 20
  | 3 => i < cc 28
  | 4 => i < cc 31
  | 5 => i < cc 38
  | 6 => i < cc 20
  | 7 => i < cc 20
  | 8 => i < 6 ∧ 0 < D.2.1 i
  | 11 => i < 6
  | 13 => i < 4
  | 14 => i < 4
  | _ => k ≤ 21 ∧ i = 0
def xoF (cc : Nat → Nat) : List Value := [.ref 4, .ref 5, .ref 6, .ref 7, .ref 8, .ref 9, .ref 10, .ref 19, .ref 22, .ref 25, .ref 26, .int (nI (cc 0)), .int (nI (cc 2)), .int (nI (cc 7))]
def xcell (cc : Nat → Nat) (aa : Nat → Nat → Int32) (P : x_P) (D : x_D) (k i : Nat) : am_C := match k with
  | 0 => .inr (8, [.int (aa 4 i), .int (aa 5 i), .int (aa 6 i)])
  | 1 => .inr (4, [.int (aa 9 i), .int (aa 10 i), .int (aa 11 i), .int (aa 12 i)])
  | 2 => .inr (5, [.int (aa 21 i), .int (aa 22 i), .int (aa 23 i), .int (aa 24 i), .int (aa 25 i), .int (aa 26 i), .ref (P 6 i), .ref (P 7 i), .int (aa 27 i)])
  | 3 => .inr (2, [.int (aa 29 i), .int (aa 30 i)])
  | 4 => .inr (3, [.int (aa 32 i), .int (aa 33 i), .int (aa 34 i), .int (aa 35 i), .int (aa 36 i), .int (aa 37 i)])
  | 5 => .inr (9, [.int (aa 39 i), .int (aa 40 i), .int (aa 41 i), .int (aa 42 i), .int (aa 43 i)])
  | 6 => .inl (0, 10, .inl (x_cnr cc aa i))
  | 7 => .inl (0, 10, .inl (x_ldr cc aa i))
  | 8 => .inl (3, D.2.1 i, .inr (.inr (.inr (.inr (x_els cc P i)))))
  | 9 => .inl (0, D.2.2.2.1, .inl D.2.2.2.2)
  | 10 => .inr (10, xoF cc)
  | 11 => .inr (0, [.int (D.1 i), .ref (xb P D i), .int (nI (xn cc i))])
  | 12 => .inl (4, 4, .inr (.inr (.inr (.inr (fun s => if s < 4 then some (11 + 2 * s) else none)))))
  | 13 => .inr (7, [.ref (12 + 2 * i), .int (x_sz aa i)])
  | 14 => .inl (1, 80, .inl (x_row aa i))
  | 15 => .inr (1, [.ref 20, .ref 21, .int (nI (cc 16))])
  | 16 => .inl (1, 192, .inl (aa 18))
  | 17 => .inl (0, 16, .inl (aa 17))
  | 18 => .inr (6, [.ref 23, .int (nI (cc 45)), .ref (P 9 0), .int (nI D.2.2.1)])
  | 19 => .inl (0, 10, .inl (aa 46))
  | 20 => .inl (0, 6, .inl (aa 19))
  | _ => .inl (0, 6, .inl (aa 1))
/-- the round's table is right for the squares it was measured with -/
def x_tab (cc : Nat → Nat) (aa : Nat → Nat → Int32) (D : x_D) : Prop := D.2.2.1 ≤ cc 3 ∧ (D.2.2.1 = cc 3 → 0 < cc 3 → D.2.2.2.1 = 10 * 2 ^ cc 3 ∧ ∀ s, s < 2 ^ cc 3 → ∀ f, f < cc 3 → s.testBit f = false → D.2.2.2.2 (10 * s + f) = nI (x_L aa (cc 3) s f))
def XS (cc : Nat → Nat) (aa : Nat → Nat → Int32) (P : x_P) (D : x_D) : Prop := (∀ k i, 10 ≤ k → k ≤ 21 → P k i = x_pin k i) ∧ (∀ q, q < 6 → xn cc q ≤ D.2.1 q ∧ D.2.1 q ≤ 600 ∧ (D.2.1 q = 0 ∨ 10 ≤ D.2.1 q)) ∧ x_tab cc aa D
def XL (h0 : am_H) (a b : Nat) (h : am_H) (cc : Nat → Nat) (aa : Nat → Nat → Int32) (P : x_P) (D : x_D) : Prop := XG h0 a b h (xlive cc D) (xcell cc aa P D) P ∧ XS cc aa P D
def xQ (h0 : am_H) (S : x_A) (v : Option Value) (h : am_H) : Prop := v = some (.int S.1) ∧ ∃ P D, XL h0 8 14000 h S.2.1 S.2.2 P D
section AMX
variable {h0 h : am_H} {a b : Nat} {cc : Nat → Nat} {aa : Nat → Nat → Int32} {P : x_P} {D : x_D}
theorem XL.fx (hx : XL h0 a b h cc aa P D) (k i : Nat) (h1 : 10 ≤ k) (h2 : k ≤ 21) (l : xlive cc D k i) : h[x_pin k i]? = some (xcell cc aa P D k i) := hx.2.1 k i h1 h2 ▸ hx.1.1 k i l
theorem XL.o (hx : XL h0 a b h cc aa P D) : h[3]? = some (.inr (10, xoF cc)) := hx.fx 10 0 (by decide) (by decide) ⟨by decide, rfl⟩
theorem XL.l (hx : XL h0 a b h cc aa P D) (q : Nat) (hq : q < 6) : h[4 + q]? = some (.inr (0, [.int (D.1 q), .ref (xb P D q), .int (nI (xn cc q))])) := hx.fx 11 q (by decide) (by decide) hq
theorem XL.sa (hx : XL h0 a b h cc aa P D) : h[10]? = some (.inl (4, 4, .inr (.inr (.inr (.inr (fun s => if s < 4 then some (11 + 2 * s) else none)))))) := hx.fx 12 0 (by decide) (by decide) ⟨by decide, rfl⟩
theorem XL.sh (hx : XL h0 a b h cc aa P D) (s : Nat) (hs : s < 4) : h[11 + 2 * s]? = some (.inr (7, [.ref (12 + 2 * s), .int (x_sz aa s)])) := hx.fx 13 s (by decide) (by decide) hs
theorem XL.sg (hx : XL h0 a b h cc aa P D) (s : Nat) (hs : s < 4) : h[12 + 2 * s]? = some (.inl (1, 80, .inl (x_row aa s))) := hx.fx 14 s (by decide) (by decide) hs
theorem XL.bp (hx : XL h0 a b h cc aa P D) : h[19]? = some (.inr (1, [.ref 20, .ref 21, .int (nI (cc 16))])) := hx.fx 15 0 (by decide) (by decide) ⟨by decide, rfl⟩
theorem XL.bs (hx : XL h0 a b h cc aa P D) : h[20]? = some (.inl (1, 192, .inl (aa 18))) := hx.fx 16 0 (by decide) (by decide) ⟨by decide, rfl⟩
theorem XL.bl (hx : XL h0 a b h cc aa P D) : h[21]? = some (.inl (0, 16, .inl (aa 17))) := hx.fx 17 0 (by decide) (by decide) ⟨by decide, rfl⟩
theorem XL.rd (hx : XL h0 a b h cc aa P D) : h[22]? = some (.inr (6, [.ref 23, .int (nI (cc 45)), .ref (P 9 0), .int (nI D.2.2.1)])) := hx.fx 18 0 (by decide) (by decide) ⟨by decide, rfl⟩
theorem XL.od (hx : XL h0 a b h cc aa P D) : h[23]? = some (.inl (0, 10, .inl (aa 46))) := hx.fx 19 0 (by decide) (by decide) ⟨by decide, rfl⟩
theorem XL.ra (hx : XL h0 a b h cc aa P D) : h[25]? = some (.inl (0, 6, .inl (aa 19))) := hx.fx 20 0 (by decide) (by decide) ⟨by decide, rfl⟩
theorem XL.fc (hx : XL h0 a b h cc aa P D) : h[26]? = some (.inl (0, 6, .inl (aa 1))) := hx.fx 21 0 (by decide) (by decide) ⟨by decide, rfl⟩
theorem XL.sq (hx : XL h0 a b h cc aa P D) (i : Nat) (hi : i < cc 3) : h[P 0 i]? = some (.inr (8, [.int (aa 4 i), .int (aa 5 i), .int (aa 6 i)])) := hx.1.1 0 i hi
theorem XL.mv (hx : XL h0 a b h cc aa P D) (i : Nat) (hi : i < cc 8) : h[P 1 i]? = some (.inr (4, [.int (aa 9 i), .int (aa 10 i), .int (aa 11 i), .int (aa 12 i)])) := hx.1.1 1 i hi
theorem XL.no (hx : XL h0 a b h cc aa P D) (i : Nat) (hi : i < cc 20) : h[P 2 i]? = some (.inr (5, [.int (aa 21 i), .int (aa 22 i), .int (aa 23 i), .int (aa 24 i), .int (aa 25 i), .int (aa 26 i), .ref (P 6 i), .ref (P 7 i), .int (aa 27 i)])) := hx.1.1 2 i hi
theorem XL.cr (hx : XL h0 a b h cc aa P D) (i : Nat) (hi : i < cc 28) : h[P 3 i]? = some (.inr (2, [.int (aa 29 i), .int (aa 30 i)])) := hx.1.1 3 i hi
theorem XL.cy (hx : XL h0 a b h cc aa P D) (i : Nat) (hi : i < cc 31) : h[P 4 i]? = some (.inr (3, [.int (aa 32 i), .int (aa 33 i), .int (aa 34 i), .int (aa 35 i), .int (aa 36 i), .int (aa 37 i)])) := hx.1.1 4 i hi
theorem XL.sy (hx : XL h0 a b h cc aa P D) (i : Nat) (hi : i < cc 38) : h[P 5 i]? = some (.inr (9, [.int (aa 39 i), .int (aa 40 i), .int (aa 41 i), .int (aa 42 i), .int (aa 43 i)])) := hx.1.1 5 i hi
theorem XL.ct (hx : XL h0 a b h cc aa P D) (i : Nat) (hi : i < cc 20) : h[P 6 i]? = some (.inl (0, 10, .inl (x_cnr cc aa i))) := hx.1.1 6 i hi
theorem XL.ld (hx : XL h0 a b h cc aa P D) (i : Nat) (hi : i < cc 20) : h[P 7 i]? = some (.inl (0, 10, .inl (x_ldr cc aa i))) := hx.1.1 7 i hi
theorem XL.ba (hx : XL h0 a b h cc aa P D) (q : Nat) (hq : q < 6) (hc : 0 < D.2.1 q) : h[xb P D q]? = some (.inl (3, D.2.1 q, .inr (.inr (.inr (.inr (x_els cc P q)))))) := by
  unfold xb
  rw [if_neg (by omega)]
  exact hx.1.1 8 q ⟨hq, hc⟩
theorem XL.ls (hx : XL h0 a b h cc aa P D) : h[P 9 0]? = some (.inl (0, D.2.2.2.1, .inl D.2.2.2.2)) := hx.1.1 9 0 ⟨by decide, rfl⟩
theorem XL.cap (hx : XL h0 a b h cc aa P D) (q : Nat) (hq : q < 6) : xn cc q ≤ D.2.1 q ∧ D.2.1 q ≤ 600 := ⟨(hx.2.2.1 q hq).1, (hx.2.2.1 q hq).2.1⟩
theorem XL.rb (hx : XL h0 a b h cc aa P D) : XL h 0 0 h cc aa P D := ⟨hx.1.rb, hx.2⟩
end AMX
theorem x_set_self {h : am_H} {x : Nat} {c : am_C} (e : h[x]? = some c) : h.set x c = h := by
  apply List.ext_getElem?
  intro j
  by_cases d : x = j
  · subst d
    rw [List.getElem?_set_self (x_lt e), e]
  · rw [List.getElem?_set_ne d]
theorem am_wp.st {mi : Nat} {fr : am_F} {h h' : am_H} {Q : Option Value → am_H → Prop} (e : h = h') (w : am_wp mi fr h Q) : am_wp mi fr h' Q := e ▸ w
theorem x_upfill (f : Nat → Int32) (i : Nat) (v : Int32) : upd (fun k => if k < i then v else f k) i v = (fun k => if k < i + 1 then v else f k) := by
  funext k
  unfold upd
  by_cases e : k = i
  · subst e
    rw [if_pos rfl, if_pos (Nat.lt_succ_self _)]
  · rw [if_neg e]
    by_cases d : k < i
    · exact (if_pos d).trans (if_pos (by omega)).symm
    · exact (if_neg d).trans (if_neg (by omega)).symm
theorem x_maxN {a c : Nat} (h : a ≤ c) (hc : c < 2 ^ 31) : (if nI a < nI c then nI c else nI a) = nI c := by
  by_cases e : a < c
  · rw [if_pos (nI_ltI (by omega) hc |>.mpr e)]
  · rw [if_neg (fun d => e ((nI_ltI (by omega) hc).mp d)), show a = c by omega]
theorem x_minN {a c : Nat} (h : a ≤ c) (hc : c < 2 ^ 31) : (if nI c < nI a then nI c else nI a) = nI a := by
  rw [if_neg (fun d => absurd ((nI_ltI hc (by omega)).mp d) (by omega))]
theorem x_cpi0 {n m : Nat} (h : n ≤ m) (hm : m < 2 ^ 31) : am_cpi 0 0 (nI n) n m = true := by
  unfold am_cpi
  rw [nI_clamp (show n < 2 ^ 31 by omega), decide_eq_true (show ¬ nI n < 0 from nI_pos (by omega)), decide_eq_true (show ¬ (0 : Int32) < 0 by decide)]
  simp only [show (0 : Int32).toNatClampNeg = 0 from rfl, Nat.zero_add]
  rw [decide_eq_true h, decide_eq_true (Nat.le_refl n)]
  rfl
theorem x_obj_a {h : am_H} {x ci : Nat} (ho : am_obj h x = some ci) (c : am_C) : am_obj (h ++ [c]) x = some ci := by
  unfold am_obj at ho ⊢
  rcases e : h[x]? with _ | d
  · rw [e] at ho
    cases ho
  · rw [List.getElem?_append_left (x_lt e), e]
    rw [e] at ho
    exact ho
theorem x_cpr_a {h : am_H} {f : Nat → Option Nat} {sp n : Nat} {c : am_C} (hq : am_cpr h f sp n = true) : am_cpr (h ++ [c]) f sp n = true := by
  unfold am_cpr at hq ⊢
  rw [List.all_eq_true] at hq ⊢
  intro i hi
  have := hq i hi
  revert this
  cases f (sp + i) with
  | none => exact fun _ => rfl
  | some y =>
    intro this
    cases e : am_obj h y with
    | none =>
      have this : (am_obj h y).isSome = true := this
      rw [e] at this
      cases this
    | some ci => show (am_obj (h ++ [c]) y).isSome = true; rw [x_obj_a e]; rfl
/-- another object in the same cell, or another cell: still an object -/
theorem x_obj_s {h : am_H} {c : am_C} {x ci l k : Nat} {fs fs' : List Value} (ho : am_obj (h ++ [c]) x = some ci) (hl : h[l]? = some (.inr (k, fs))) (_hk : k < 12) : am_obj ((h ++ [c]).set l (.inr (k, fs'))) x = some ci := by
  unfold am_obj at ho ⊢
  have hll := x_lt hl
  by_cases e : l = x
  · subst e
    rw [List.getElem?_append_left hll, hl] at ho
    rw [List.getElem?_set_self (by rw [List.length_append]; omega)]
    exact ho
  · rw [List.getElem?_set_ne e]
    exact ho
theorem x_set_last (h : am_H) (c d : am_C) : (h ++ [c]).set h.length d = h ++ [d] := by
  rw [List.set_append_right _ _ (Nat.le_refl _), Nat.sub_self]
  rfl
theorem x_at_last (h : am_H) (c : am_C) : (h ++ [c])[h.length]? = some c := by
  rw [List.getElem?_append_right (Nat.le_refl _), Nat.sub_self]
  rfl
theorem x_u2n {C : Nat → Nat → am_C} {q k i : Nat} {L : Nat → Nat → Prop} {c1 c2 c3 c4 c5 : am_C} (_l : uL L 8 q k i) : u2 (u2 C 11 q c5) 8 q c4 k i = u2 (u2 (u2 (u2 (u2 C 11 q c1) 8 q c2) 11 q c3) 8 q c4) 11 q c5 k i := by
  by_cases e : k = 8 ∧ i = q
  · rw [e.1, e.2]
    simp [u2]
  · by_cases d : k = 11 ∧ i = q
    · rw [d.1, d.2]
      simp [u2]
    · simp [u2, e, d]
theorem x_u2m {C : Nat → Nat → am_C} {q k i : Nat} {L : Nat → Nat → Prop} {c1 c4 c5 : am_C} (_l : uL L 8 q k i) : u2 (u2 C 11 q c5) 8 q c4 k i = u2 (u2 (u2 C 11 q c1) 8 q c4) 11 q c5 k i := by
  by_cases e : k = 8 ∧ i = q
  · rw [e.1, e.2]
    simp [u2]
  · by_cases d : k = 11 ∧ i = q
    · rw [d.1, d.2]
      simp [u2]
    · simp [u2, e, d]
/-! the library: lists, rows -/
theorem c181 {h : am_H} {l bk n : Nat} {md : Int32} (hl : h[l]? = some (.inr (0, [.int md, .ref bk, .int (nI n)]))) : am_rd 181 [.ref l] h (.int (nI n)) := by
  show am_wp _ (_, [_], _) _ _
  refine w_aload_n s181_0 rfl ?_
  refine w_getf s181_1 hl rfl ?_
  refine w_iret s181_4 rk181 ?_
  exact ⟨rfl, rfl⟩
theorem c182 {h : am_H} {l bk n : Nat} {md : Int32} (hl : h[l]? = some (.inr (0, [.int md, .ref bk, .int (nI n)]))) (hn : n < 2 ^ 31) : am_rd 182 [.ref l] h (.int (am_bi (decide (n = 0)))) := by
  show am_wp _ (_, [_], _) _ _
  refine w_aload_n s182_0 rfl ?_
  refine w_getf s182_1 hl rfl ?_
  refine w_ifneN (x := n) s182_4 rfl (by omega)  (fun c4 => ?_) (fun c4 => ?_)
  · skip
    refine w_iconst (v := 0) s182_11 rfl ?_
    refine w_zret0 s182_12 rk182 ?_
    refine ⟨?_, rfl⟩
    first | (rw [decide_eq_true c4]; rfl) | (rw [decide_eq_false c4]; rfl)
  · skip
    refine w_iconst (v := 1) s182_7 rfl ?_
    refine w_goto s182_8 rfl ?_
    refine w_zret1 s182_12 rk182 ?_
    refine ⟨?_, rfl⟩
    first | (rw [decide_eq_true c4]; rfl) | (rw [decide_eq_false c4]; rfl)
theorem c194 {h : am_H} {i n : Nat} (hi : i < n) (hn : n < 2 ^ 31) : am_rd 194 [.int (nI i), .int (nI n), .null] h (.int (nI i)) := by
  show am_wp _ (_, [_, _, _], _) _ _
  refine w_iload_n s194_0 rfl ?_
  refine w_iflt s194_1 rfl  (fun c => False.elim (nI_pos (by omega) c)) (fun c1 => ?_)
  refine w_iload_n s194_4 rfl ?_
  refine w_iload_n s194_5 rfl ?_
  refine w_icmpltN (x := i) (y := n) s194_6 rfl (by omega) (by omega)  (fun c6 => ?_) (fun c => False.elim (by omega))
  refine w_iload_n s194_16 rfl ?_
  refine w_iret s194_17 rk194 ?_
  exact ⟨rfl, rfl⟩
theorem c191 {h : am_H} {i n : Nat} (hi : i < n) (hn : n < 2 ^ 31) : am_rd 191 [.int (nI i), .int (nI n)] h (.int (nI i)) := by
  show am_wp _ (_, [_, _], _) _ _
  refine w_iload_n s191_0 rfl ?_
  refine w_iload_n s191_1 rfl ?_
  refine w_null s191_2 ?_
  refine w_callS3r s191_3 mc191_194 rfl rfl (c194 hi hn) ?_
  refine w_iret s191_6 rk191 ?_
  exact ⟨rfl, rfl⟩
theorem c183 {h : am_H} {l bk n i x cap : Nat} {md : Int32} {f : Nat → Option Nat} (hl : h[l]? = some (.inr (0, [.int md, .ref bk, .int (nI n)]))) (hb : h[bk]? = some (.inl (3, cap, .inr (.inr (.inr (.inr f)))))) (hi : i < cap) (hc : cap < 2 ^ 31) (hx : f i = some x) : am_rd 183 [.ref l, .int (nI i)] h (.ref x) := by
  show am_wp _ (_, [_, _], _) _ _
  refine w_aload_n s183_0 rfl ?_
  refine w_getf s183_1 hl rfl ?_
  refine w_iload_n s183_4 rfl ?_
  refine w_aald s183_5 hb (Or.inl rfl) (am_inb hi hc) (by rw [nI_clamp (by omega), hx]; first | done | rfl) ?_
  refine w_aret s183_6 rk183 ?_
  exact ⟨rfl, rfl⟩
theorem c184 {h : am_H} {l bk n i x cap : Nat} {md : Int32} {f : Nat → Option Nat} (hl : h[l]? = some (.inr (0, [.int md, .ref bk, .int (nI n)]))) (hb : h[bk]? = some (.inl (3, cap, .inr (.inr (.inr (.inr f)))))) (hi : i < n) (hn : n ≤ cap) (hc : cap < 2 ^ 31) (hx : f i = some x) : am_rd 184 [.ref l, .int (nI i)] h (.ref x) := by
  show am_wp _ (_, [_, _], _) _ _
  refine w_iload_n s184_0 rfl ?_
  refine w_aload_n s184_1 rfl ?_
  refine w_getf s184_2 hl rfl ?_
  refine w_callS2r s184_5 mc184_191 rfl rfl (c191 hi (by omega)) ?_
  refine w_pop_i s184_8 ?_
  refine w_aload_n s184_9 rfl ?_
  refine w_iload_n s184_10 rfl ?_
  refine w_callV1r s184_11 hl ow183 mc184_183 rfl rfl (c183 hl hb (by omega) hc hx) ?_
  refine w_aret s184_14 rk184 ?_
  exact ⟨rfl, rfl⟩
theorem c187 {h : am_H} {x n : Nat} {v : Int32} {f : Nat → Int32} (hh : h[x]? = some (.inl (0, n, .inl f))) (hn : n < 2 ^ 31) (ht : 0 < 5) : am_ev 187 [.ref x, .int v] h (fun w h' => w = none ∧ h' = h.set x (.inl (0, n, .inl (fun k => if k < n then v else f k)))) := by
  have hx := (List.getElem?_eq_some_iff.mp hh).1
  show am_wp _ (_, [_, _, _, _], _) _ _
  refine w_iconst (v := 0) s187_0 rfl ?_
  refine w_istore_n s187_1 rfl ?_
  show am_wp _ (_, [_, _, _, _], _) _ _
  refine w_aload_n s187_2 rfl ?_
  refine w_alen s187_3 hh (Or.inl ht) ?_
  refine w_istore_n s187_4 rfl ?_
  show am_wp _ (_, [_, _, _, _], _) _ _
  refine am_wp.st (h := h.set x (.inl (0, n, .inl (fun k => if k < 0 then v else f k)))) (by simp only [Nat.not_lt_zero, if_false]; rw [x_set_self hh]) ?_
  refine am_lp (n := n) (P := fun i => am_wp 187 (5, [_, _, some (.int (nI i)), some (.int (nI n))], []) (h.set x (.inl (0, n, .inl (fun k => if k < i then v else f k)))) _) ?_ 0 (Nat.zero_le _)
  intro i hi ihi
  show am_wp _ (_, [_, _, _, _], _) _ _
  refine w_iload_n s187_5 rfl ?_
  refine w_iload_n s187_6 rfl ?_
  refine w_icmpgeN (x := i) (y := n) s187_7 rfl (by omega) (by omega)  (fun c7 => ?_) (fun c7 => ?_)
  · skip
    refine w_vret s187_20 rk187 ?_
    have e : i = n := by omega
    subst e
    exact ⟨rfl, rfl⟩
  · skip
    refine w_aload_n s187_10 rfl ?_
    refine w_iload_n s187_11 rfl ?_
    refine w_iload_n s187_12 rfl ?_
    refine w_iastN s187_13 (List.getElem?_set_self hx) (by omega) hn ?_
    rw [List.set_set]
    refine w_iinc s187_14 rfl (nI_inc (i)) rfl ?_
    show am_wp _ (_, [_, _, _, _], _) _ _
    refine w_goto s187_17 rfl ?_
    rw [show (upd (fun k => if k < i then v else f k) i (v)) = (fun k => if k < i + 1 then v else f k) from x_upfill _ _ _]
    exact ihi (by omega)
theorem c188 {h : am_H} {x n : Nat} {v : Int32} {f : Nat → Int32} (hh : h[x]? = some (.inl (1, n, .inl f))) (hn : n < 2 ^ 31) (ht : 1 < 5) : am_ev 188 [.ref x, .int v] h (fun w h' => w = none ∧ h' = h.set x (.inl (1, n, .inl (fun k => if k < n then am_nrw 1 v else f k)))) := by
  have hx := (List.getElem?_eq_some_iff.mp hh).1
  show am_wp _ (_, [_, _, _, _], _) _ _
  refine w_iconst (v := 0) s188_0 rfl ?_
  refine w_istore_n s188_1 rfl ?_
  show am_wp _ (_, [_, _, _, _], _) _ _
  refine w_aload_n s188_2 rfl ?_
  refine w_alen s188_3 hh (Or.inl ht) ?_
  refine w_istore_n s188_4 rfl ?_
  show am_wp _ (_, [_, _, _, _], _) _ _
  refine am_wp.st (h := h.set x (.inl (1, n, .inl (fun k => if k < 0 then am_nrw 1 v else f k)))) (by simp only [Nat.not_lt_zero, if_false]; rw [x_set_self hh]) ?_
  refine am_lp (n := n) (P := fun i => am_wp 188 (5, [_, _, some (.int (nI i)), some (.int (nI n))], []) (h.set x (.inl (1, n, .inl (fun k => if k < i then am_nrw 1 v else f k)))) _) ?_ 0 (Nat.zero_le _)
  intro i hi ihi
  show am_wp _ (_, [_, _, _, _], _) _ _
  refine w_iload_n s188_5 rfl ?_
  refine w_iload_n s188_6 rfl ?_
  refine w_icmpgeN (x := i) (y := n) s188_7 rfl (by omega) (by omega)  (fun c7 => ?_) (fun c7 => ?_)
  · skip
    refine w_vret s188_20 rk188 ?_
    have e : i = n := by omega
    subst e
    exact ⟨rfl, rfl⟩
  · skip
    refine w_aload_n s188_10 rfl ?_
    refine w_iload_n s188_11 rfl ?_
    refine w_iload_n s188_12 rfl ?_
    refine w_bastN s188_13 (List.getElem?_set_self hx) (Or.inl rfl) (by omega) hn ?_
    rw [List.set_set]
    refine w_iinc s188_14 rfl (nI_inc (i)) rfl ?_
    show am_wp _ (_, [_, _, _, _], _) _ _
    refine w_goto s188_17 rfl ?_
    rw [show (upd (fun k => if k < i then am_nrw 1 v else f k) i (am_nrw 1 v)) = (fun k => if k < i + 1 then am_nrw 1 v else f k) from x_upfill _ _ _]
    exact ihi (by omega)
theorem c176 {h : am_H} {x : Nat} : am_ev 176 [.ref x] h (fun v h1 => v = none ∧ h1 = h) := by
  show am_wp _ (_, [_], _) _ _
  refine w_aload_n s176_0 rfl ?_
  refine w_oini s176_1 ro176 rfl ?_
  refine w_vret s176_4 rk176 ?_
  exact ⟨rfl, rfl⟩
theorem c177 {h : am_H} {x : Nat} (hl : h[x]? = some (.inr (0, [.int 0, .null, .int 0]))) : am_ev 177 [.ref x] h (fun v h1 => v = none ∧ h1 = h) := by
  show am_wp _ (_, [_], _) _ _
  refine w_aload_n s177_0 rfl ?_
  refine w_callI0 s177_1 mc177_176 rfl rfl (c176) ?_
  rintro v h1 ⟨rfl, rfl⟩
  show am_wp _ (_, _, _) _ _
  refine w_aload_n s177_4 rfl ?_
  refine w_iconst (v := 0) s177_5 rfl ?_
  refine w_putf s177_6 (by decide +kernel) hl rfl rfl ?_
  refine w_vret s177_9 rk177 ?_
  exact ⟨rfl, x_set_self hl⟩
theorem c178 {h : am_H} {x : Nat} (hl : h[x]? = some (.inr (0, [.int 0, .null, .int 0]))) : am_ev 178 [.ref x] h (fun v h1 => v = none ∧ h1 = h.set x (.inr (0, [.int 0, .ref 1, .int 0]))) := by
  show am_wp _ (_, [_], _) _ _
  refine w_aload_n s178_0 rfl ?_
  refine w_callI0 s178_1 mc178_177 rfl rfl (c177 hl) ?_
  rintro v h1 ⟨rfl, rfl⟩
  show am_wp _ (_, _, _) _ _
  refine w_aload_n s178_4 rfl ?_
  refine w_gets s178_5 ?_
  refine w_putf s178_8 (by decide +kernel) hl rfl rfl ?_
  refine w_vret s178_11 rk178 ?_
  exact ⟨rfl, rfl⟩
theorem c192 {h : am_H} {a c : Nat} (hc : 1 ≤ c) (hs : a + c < 100000) : am_rd 192 [.int (nI a), .int (nI 1), .int (nI c)] h (.int (nI (a + c))) := by
  show am_wp _ (_, [_, _, _, _], _) _ _
  refine w_iload_n s192_0 rfl ?_
  refine w_iload_n s192_1 rfl ?_
  refine w_iload_n s192_2 rfl ?_
  refine w_max s192_3 ro192 rfl (x_maxN hc (by omega)) ?_
  refine w_iaddN (x := a) (y := c) s192_6 ?_
  refine w_istore_n s192_7 rfl ?_
  show am_wp _ (_, [_, _, _, _], _) _ _
  refine w_iconst (v := 0) s192_8 rfl ?_
  refine w_iload_n s192_9 rfl ?_
  refine w_icmpgeN (x := 0) (y := (a + c)) s192_10 rfl (by omega) (by omega)  (fun c => False.elim (by omega)) (fun c10 => ?_)
  refine w_iload_n s192_13 rfl ?_
  refine w_ldc (v := 2147483639) s192_14 rfl ?_
  refine w_icmpgtN (x := (a + c)) (y := 2147483639) s192_16 rfl (by omega) (by decide)  (fun c => False.elim (by omega)) (fun c16 => ?_)
  refine w_iload_n s192_19 rfl ?_
  refine w_iret s192_20 rk192 ?_
  exact ⟨rfl, rfl⟩
theorem c190 {h : am_H} {x n m : Nat} {f : Nat → Option Nat} (hh : h[x]? = some (.inl (3, n, .inr (.inr (.inr (.inr (f))))))) (hn : n ≤ m) (hm : m ≤ 100000) (hq : am_cpr h f 0 n = true) : am_ev 190 [.ref x, .int (nI m), .ref 2] h (fun v h1 => v = some (.ref h.length) ∧ h1 = h ++ ([.inl (3, m, .inr (.inr (.inr (.inr (va_cpy f (fun _ => none) 0 0 n)))))] : am_H)) := by
  have hx := x_lt hh
  have hh3 : (h ++ [.inl (3, m, .inr (.inr (.inr (.inr (fun _ => none)))))] : am_H)[x]? = _ := (List.getElem?_append_left hx).trans hh
  have hh4 : (h ++ [.inl (3, m, .inr (.inr (.inr (.inr (fun _ => none)))))] : am_H)[h.length]? = some (.inl (3, m, .inr (.inr (.inr (.inr (fun _ => none)))))) := by rw [List.getElem?_append_right (Nat.le_refl _), Nat.sub_self]; rfl
  show am_wp _ (_, [_, _, _, _], _) _ _
  refine w_aload_n s190_0 rfl ?_
  refine w_ldcM s190_1 ?_
  refine w_acmpne s190_3 (Or.inl ⟨rfl, rfl⟩) rfl  (fun c => False.elim (c rfl)) (fun c3 => ?_)
  refine w_iload_n s190_6 rfl ?_
  refine w_anw (n := m) s190_7 (by omega) ?_
  refine w_goto s190_10 rfl ?_
  refine w_astore_n s190_24 rfl ?_
  show am_wp _ (_, [_, _, _, _], _) _ _
  refine w_aload_n s190_25 rfl ?_
  refine w_iconst (v := 0) s190_26 rfl ?_
  refine w_aload_n s190_27 rfl ?_
  refine w_iconst (v := 0) s190_28 rfl ?_
  refine w_aload_n s190_29 rfl ?_
  refine w_alen s190_30 hh3 (Or.inl (by decide)) ?_
  refine w_iload_n s190_31 rfl ?_
  refine w_min s190_32 ro190 rfl (x_minN hn (by omega)) ?_
  refine w_cpr s190_35 ro190 rfl hh3 hh4 (x_cpi0 hn (by omega)) (x_cpr_a (by rw [nI_clamp (show n < 2 ^ 31 by omega)]; exact hq)) ?_
  rw [nI_clamp (show n < 2 ^ 31 by omega)]
  refine w_aload_n s190_38 rfl ?_
  refine w_aret s190_39 rk190 ?_
  exact ⟨rfl, x_set_last _ _ _⟩
theorem c189 {h : am_H} {x n m : Nat} {f : Nat → Option Nat} (hh : h[x]? = some (.inl (3, n, .inr (.inr (.inr (.inr (f))))))) (h3 : 3 ≤ x) (hn : n ≤ m) (hm : m ≤ 100000) (hq : am_cpr h f 0 n = true) : am_ev 189 [.ref x, .int (nI m)] h (fun v h1 => v = some (.ref h.length) ∧ h1 = h ++ ([.inl (3, m, .inr (.inr (.inr (.inr (va_cpy f (fun _ => none) 0 0 n)))))] : am_H)) := by
  show am_wp _ (_, [_, _], _) _ _
  refine w_aload_n s189_0 rfl ?_
  refine w_iload_n s189_1 rfl ?_
  refine w_aload_n s189_2 rfl ?_
  refine w_gcls s189_3 hh h3 ro189 rfl ?_
  refine w_callS3 s189_6 mc189_190 rfl rfl (c190 hh hn hm hq) ?_
  rintro v h1 ⟨rfl, rfl⟩
  show am_wp _ (_, _, Value.ref _ :: _) _ _
  refine w_aret s189_9 rk189 ?_
  exact ⟨rfl, rfl⟩
theorem c179a {h : am_H} {l : Nat} {md : Int32} (hl : h[l]? = some (.inr (0, [.int md, .ref 1, .int (nI 0)]))) (h1 : h[1]? = some (.inl (8, 0, .inr (.inr (.inr (.inr (fun _ => none))))))) : am_ev 179 [.ref l, .int (nI 1)] h (fun v h2 => v = some (.ref h.length) ∧ h2 = (h ++ ([.inl (3, 10, .inr (.inr (.inr (.inr (fun _ => none)))))] : am_H)).set l (.inr (0, [.int md, .ref h.length, .int (nI 0)]))) := by
  have hl2 := (List.getElem?_append_left (l₂ := ([.inl (3, 10, .inr (.inr (.inr (.inr (fun _ => none)))))] : am_H)) (x_lt hl)).trans hl
  show am_wp _ (_, [_, _, _, _], _) _ _
  refine w_aload_n s179_0 rfl ?_
  refine w_getf s179_1 hl rfl ?_
  refine w_alen s179_4 h1 (Or.inr (Or.inr ⟨rfl, rfl⟩)) ?_
  refine w_istore_n s179_5 rfl ?_
  show am_wp _ (_, [_, _, _, _], _) _ _
  refine w_iload_n s179_6 rfl ?_
  refine w_ifgt s179_7 rfl  (fun c => absurd c (by decide)) (fun c7 => ?_)
  refine w_aload_n s179_10 rfl ?_
  refine w_getf s179_11 hl rfl ?_
  refine w_gets s179_14 ?_
  refine w_acmpeq s179_17 (Or.inr ⟨Or.inl rfl, Or.inl rfl⟩) rfl  (fun c17 => ?_) (fun c => False.elim (c rfl))
  refine w_aload_n s179_45 rfl ?_
  refine w_bipush (v := 10) s179_46 rfl ?_
  refine w_iload_n s179_48 rfl ?_
  refine w_max s179_49 ro179 rfl rfl ?_
  refine w_anw (n := 10) s179_52 (by omega) ?_
  refine w_dup_x1_r s179_55 ?_
  refine w_putf s179_56 (by decide +kernel) hl2 rfl rfl ?_
  refine w_aret s179_59 rk179 ?_
  exact ⟨rfl, rfl⟩
theorem c179b {h : am_H} {l bk n : Nat} {md : Int32} {f : Nat → Option Nat} (hl : h[l]? = some (.inr (0, [.int md, .ref bk, .int (nI n)]))) (hb : h[bk]? = some (.inl (3, n, .inr (.inr (.inr (.inr (f))))))) (h3 : 3 ≤ bk) (hn : 10 ≤ n) (hm : n ≤ 60000) (hq : am_cpr h f 0 n = true) : am_ev 179 [.ref l, .int (nI (n + 1))] h (fun v h2 => v = some (.ref h.length) ∧ h2 = (h ++ ([.inl (3, n + n / 2, .inr (.inr (.inr (.inr (va_cpy f (fun _ => none) 0 0 n)))))] : am_H)).set l (.inr (0, [.int md, .ref h.length, .int (nI n)]))) := by
  have hl2 := (List.getElem?_append_left (l₂ := ([.inl (3, n + n / 2, .inr (.inr (.inr (.inr (va_cpy f (fun _ => none) 0 0 n)))))] : am_H)) (x_lt hl)).trans hl
  show am_wp _ (_, [_, _, _, _], _) _ _
  refine w_aload_n s179_0 rfl ?_
  refine w_getf s179_1 hl rfl ?_
  refine w_alen s179_4 hb (Or.inl (by decide)) ?_
  refine w_istore_n s179_5 rfl ?_
  show am_wp _ (_, [_, _, _, _], _) _ _
  refine w_iload_n s179_6 rfl ?_
  refine w_ifgtN (x := n) s179_7 rfl (by omega)  (fun c7 => ?_) (fun c => False.elim (by omega))
  refine w_iload_n s179_20 rfl ?_
  refine w_iload_n s179_21 rfl ?_
  refine w_iload_n s179_22 rfl ?_
  refine w_isub s179_23 (show _ = nI 1 by rw [pk_sub (by omega), Nat.add_sub_cancel_left]) ?_
  refine w_iload_n s179_24 rfl ?_
  refine w_iconst (v := 1) s179_25 rfl ?_
  refine w_ishr s179_26 (pk_shrN (show n < 2 ^ 31 by omega) 1 1 rfl) ?_
  refine w_callS3r s179_27 mc179_192 rfl rfl (c192 (by omega) (by omega)) ?_
  refine w_istore_n s179_30 rfl ?_
  show am_wp _ (_, [_, _, _, _], _) _ _
  refine w_aload_n s179_31 rfl ?_
  refine w_aload_n s179_32 rfl ?_
  refine w_getf s179_33 hl rfl ?_
  refine w_iload_n s179_36 rfl ?_
  refine w_callS2 s179_37 mc179_189 rfl rfl (c189 hb h3 (by omega) (by omega) hq) ?_
  rintro v h1 ⟨rfl, rfl⟩
  show am_wp _ (_, _, Value.ref _ :: _) _ _
  refine w_dup_x1_r s179_40 ?_
  refine w_putf s179_41 (by decide +kernel) hl2 rfl rfl ?_
  refine w_aret s179_44 rk179 ?_
  exact ⟨rfl, rfl⟩
theorem c180a {h : am_H} {l : Nat} {md : Int32} (hl : h[l]? = some (.inr (0, [.int md, .ref 1, .int (nI 0)]))) (h1 : h[1]? = some (.inl (8, 0, .inr (.inr (.inr (.inr (fun _ => none))))))) : am_ev 180 [.ref l] h (fun v h2 => v = some (.ref h.length) ∧ h2 = (h ++ ([.inl (3, 10, .inr (.inr (.inr (.inr (fun _ => none)))))] : am_H)).set l (.inr (0, [.int md, .ref h.length, .int (nI 0)]))) := by
  show am_wp _ (_, [_], _) _ _
  refine w_aload_n s180_0 rfl ?_
  refine w_aload_n s180_1 rfl ?_
  refine w_getf s180_2 hl rfl ?_
  refine w_iconst (v := 1) s180_5 rfl ?_
  refine w_iaddN (x := 0) (y := 1) s180_6 ?_
  refine w_callV1 s180_7 hl ow179 mc180_179 rfl rfl (c179a hl h1) ?_
  rintro v h1 ⟨rfl, rfl⟩
  show am_wp _ (_, _, Value.ref _ :: _) _ _
  refine w_aret s180_10 rk180 ?_
  exact ⟨rfl, rfl⟩
theorem c180b {h : am_H} {l bk n : Nat} {md : Int32} {f : Nat → Option Nat} (hl : h[l]? = some (.inr (0, [.int md, .ref bk, .int (nI n)]))) (hb : h[bk]? = some (.inl (3, n, .inr (.inr (.inr (.inr (f))))))) (h3 : 3 ≤ bk) (hn : 10 ≤ n) (hm : n ≤ 60000) (hq : am_cpr h f 0 n = true) : am_ev 180 [.ref l] h (fun v h2 => v = some (.ref h.length) ∧ h2 = (h ++ ([.inl (3, n + n / 2, .inr (.inr (.inr (.inr (va_cpy f (fun _ => none) 0 0 n)))))] : am_H)).set l (.inr (0, [.int md, .ref h.length, .int (nI n)]))) := by
  show am_wp _ (_, [_], _) _ _
  refine w_aload_n s180_0 rfl ?_
  refine w_aload_n s180_1 rfl ?_
  refine w_getf s180_2 hl rfl ?_
  refine w_iconst (v := 1) s180_5 rfl ?_
  refine w_iaddN (x := n) (y := 1) s180_6 ?_
  refine w_callV1 s180_7 hl ow179 mc180_179 rfl rfl (c179b hl hb h3 hn hm hq) ?_
  rintro v h1 ⟨rfl, rfl⟩
  show am_wp _ (_, _, Value.ref _ :: _) _ _
  refine w_aret s180_10 rk180 ?_
  exact ⟨rfl, rfl⟩
theorem c185c {h : am_H} {l bk n x ci cap : Nat} {md : Int32} {f : Nat → Option Nat} (hl : h[l]? = some (.inr (0, [.int md, .ref bk, .int (nI n)]))) (hb : h[bk]? = some (.inl (3, cap, .inr (.inr (.inr (.inr (f))))))) (ho : am_obj h x = some ci) (hn : n < cap) (hc : cap ≤ 60000) (hne : bk ≠ l) : am_ev 185 [.ref l, .ref x, .ref bk, .int (nI n)] h (fun v h2 => v = none ∧ h2 = (h.set bk (.inl (3, cap, .inr (.inr (.inr (.inr (va_up f n (some x)))))))).set l (.inr (0, [.int md, .ref bk, .int (nI (n + 1))]))) := by
  show am_wp _ (_, [_, _, _, _], _) _ _
  refine w_iload_n s185_0 rfl ?_
  refine w_aload_n s185_1 rfl ?_
  refine w_alen s185_2 hb (Or.inl (by decide)) ?_
  refine w_icmpneN (x := n) (y := cap) s185_3 rfl (by omega) (by omega)  (fun c3 => ?_) (fun c => False.elim (by omega))
  refine w_aload_n s185_11 rfl ?_
  refine w_iload_n s185_12 rfl ?_
  refine w_aload_n s185_13 rfl ?_
  refine w_aast s185_14 hb ho (Or.inl rfl) (am_inb hn (by omega)) ?_
  rw [nI_clamp (show n < 2 ^ 31 by omega)]
  refine w_aload_n s185_15 rfl ?_
  refine w_iload_n s185_16 rfl ?_
  refine w_iconst (v := 1) s185_17 rfl ?_
  refine w_iaddN (x := n) (y := 1) s185_18 ?_
  refine w_putf s185_19 (by decide +kernel) ((List.getElem?_set_ne hne).trans hl) rfl rfl ?_
  refine w_vret s185_22 rk185 ?_
  exact ⟨rfl, rfl⟩
theorem c185a {h : am_H} {l x ci : Nat} {md : Int32} (hl : h[l]? = some (.inr (0, [.int md, .ref 1, .int (nI 0)]))) (h1 : h[1]? = some (.inl (8, 0, .inr (.inr (.inr (.inr (fun _ => none))))))) (ho : am_obj h x = some ci) : am_ev 185 [.ref l, .ref x, .ref 1, .int (nI 0)] h (fun v h2 => v = none ∧ h2 = (((h ++ ([.inl (3, 10, .inr (.inr (.inr (.inr (fun _ => none)))))] : am_H)).set l (.inr (0, [.int md, .ref h.length, .int (nI 0)]))).set h.length (.inl (3, 10, .inr (.inr (.inr (.inr (va_up (fun _ => none) 0 (some x)))))))).set l (.inr (0, [.int md, .ref h.length, .int (nI 1)]))) := by
  have hll := x_lt hl
  show am_wp _ (_, [_, _, _, _], _) _ _
  refine w_iload_n s185_0 rfl ?_
  refine w_aload_n s185_1 rfl ?_
  refine w_alen s185_2 h1 (Or.inr (Or.inr ⟨rfl, rfl⟩)) ?_
  refine w_icmpneN (x := 0) (y := 0) s185_3 rfl (by omega) (by omega)  (fun c => False.elim (c rfl)) (fun c3 => ?_)
  refine w_aload_n s185_6 rfl ?_
  refine w_callV0 s185_7 hl ow180 mc185_180 rfl rfl (c180a hl h1) ?_
  rintro v h1 ⟨rfl, rfl⟩
  show am_wp _ (_, _, Value.ref _ :: _) _ _
  refine w_astore_n s185_10 rfl ?_
  show am_wp _ (_, [_, _, _, _], _) _ _
  refine w_aload_n s185_11 rfl ?_
  refine w_iload_n s185_12 rfl ?_
  refine w_aload_n s185_13 rfl ?_
  refine w_aast (ci := ci) s185_14 ((List.getElem?_set_ne (by omega)).trans (by rw [List.getElem?_append_right (Nat.le_refl _), Nat.sub_self]; rfl)) (x_obj_s (x_obj_a ho _) hl (by decide)) (Or.inl rfl) (am_inb (n := 10) (by decide) (by decide)) ?_
  show am_wp _ (_, _, _) (List.set _ _ (.inl (3, 10, .inr (.inr (.inr (.inr (va_up (fun _ => none) 0 (some x)))))))) _
  refine w_aload_n s185_15 rfl ?_
  refine w_iload_n s185_16 rfl ?_
  refine w_iconst (v := 1) s185_17 rfl ?_
  refine w_iaddN (x := 0) (y := 1) s185_18 ?_
  refine w_putf s185_19 (by decide +kernel) ((List.getElem?_set_ne (by omega)).trans (List.getElem?_set_self (by rw [List.length_append]; omega))) rfl rfl ?_
  refine w_vret s185_22 rk185 ?_
  exact ⟨rfl, rfl⟩
theorem c185b {h : am_H} {l bk n x ci : Nat} {md : Int32} {f : Nat → Option Nat} (hl : h[l]? = some (.inr (0, [.int md, .ref bk, .int (nI n)]))) (hb : h[bk]? = some (.inl (3, n, .inr (.inr (.inr (.inr (f))))))) (h3 : 3 ≤ bk) (hn : 10 ≤ n) (hm : n ≤ 60000) (hq : am_cpr h f 0 n = true) (ho : am_obj h x = some ci) : am_ev 185 [.ref l, .ref x, .ref bk, .int (nI n)] h (fun v h2 => v = none ∧ h2 = (((h ++ ([.inl (3, n + n / 2, .inr (.inr (.inr (.inr (va_cpy f (fun _ => none) 0 0 n)))))] : am_H)).set l (.inr (0, [.int md, .ref h.length, .int (nI n)]))).set h.length (.inl (3, n + n / 2, .inr (.inr (.inr (.inr (va_up (va_cpy f (fun _ => none) 0 0 n) n (some x)))))))).set l (.inr (0, [.int md, .ref h.length, .int (nI (n + 1))]))) := by
  have hll := x_lt hl
  show am_wp _ (_, [_, _, _, _], _) _ _
  refine w_iload_n s185_0 rfl ?_
  refine w_aload_n s185_1 rfl ?_
  refine w_alen s185_2 hb (Or.inl (by decide)) ?_
  refine w_icmpneN (x := n) (y := n) s185_3 rfl (by omega) (by omega)  (fun c => False.elim (c rfl)) (fun c3 => ?_)
  refine w_aload_n s185_6 rfl ?_
  refine w_callV0 s185_7 hl ow180 mc185_180 rfl rfl (c180b hl hb h3 hn hm hq) ?_
  rintro v h1 ⟨rfl, rfl⟩
  show am_wp _ (_, _, Value.ref _ :: _) _ _
  refine w_astore_n s185_10 rfl ?_
  show am_wp _ (_, [_, _, _, _], _) _ _
  refine w_aload_n s185_11 rfl ?_
  refine w_iload_n s185_12 rfl ?_
  refine w_aload_n s185_13 rfl ?_
  refine w_aast (ci := ci) s185_14 ((List.getElem?_set_ne (by omega)).trans (by rw [List.getElem?_append_right (Nat.le_refl _), Nat.sub_self]; rfl)) (x_obj_s (x_obj_a ho _) hl (by decide)) (Or.inl rfl) (am_inb (n := n + n / 2) (by omega) (by omega)) ?_
  rw [nI_clamp (show n < 2 ^ 31 by omega)]
  refine w_aload_n s185_15 rfl ?_
  refine w_iload_n s185_16 rfl ?_
  refine w_iconst (v := 1) s185_17 rfl ?_
  refine w_iaddN (x := n) (y := 1) s185_18 ?_
  refine w_putf s185_19 (by decide +kernel) ((List.getElem?_set_ne (by omega)).trans (List.getElem?_set_self (by rw [List.length_append]; omega))) rfl rfl ?_
  refine w_vret s185_22 rk185 ?_
  exact ⟨rfl, rfl⟩
/-- a list of the world, and what is put behind it -/
def xAdd (h0 : am_H) (a b : Nat) (L : Nat → Nat → Prop) (C : Nat → Nat → am_C) (P : Nat → Nat → Nat) (q n y : Nat) (md : Int32) (f : Nat → Option Nat) (cap : Nat) (v : Option Value) (h : am_H) : Prop := v = some (.int 1) ∧ ∃ cap' P', (∀ k i, ¬ (k = 8 ∧ i = q) → P' k i = P k i) ∧ n + 1 ≤ cap' ∧ cap' ≤ 600 ∧ 10 ≤ cap' ∧ XG h0 (a + 1) (b + 600) h (uL L 8 q) (u2 (u2 C 11 q (.inr (0, [.int (md + 1), .ref (P' 8 q), .int (nI (n + 1))]))) 8 q (.inl (3, cap', .inr (.inr (.inr (.inr (va_up f n (some y)))))))) P'
theorem x_obj_i {h : am_H} {x ci : Nat} {fs : List Value} (e : h[x]? = some (.inr (ci, fs))) (hc : ci < 12) : am_obj h x = some ci := by
  unfold am_obj
  rw [e]
  exact if_pos hc
theorem x_cpr_i {h : am_H} {f : Nat → Option Nat} {n : Nat} (hf : ∀ j, j < n → ∃ y ci, f j = some y ∧ am_obj h y = some ci) : am_cpr h f 0 n = true := by
  unfold am_cpr
  rw [List.all_eq_true]
  intro i hi
  obtain ⟨y, ci, e1, e2⟩ := hf i (List.mem_range.mp hi)
  rw [Nat.zero_add, e1]
  show (am_obj h y).isSome = true
  rw [e2]
  rfl
theorem x_cpy_all {f : Nat → Option Nat} {n : Nat} (hf : ∀ j, n ≤ j → f j = none) : va_cpy f (fun _ => none) 0 0 n = f := by
  funext j
  rcases Nat.lt_or_ge j n with d | d
  · rw [pk_cpy_in (Nat.zero_le _) (by omega), Nat.zero_add, Nat.sub_zero]
  · rw [pk_cpy_out (Or.inr (by omega)), hf j d]
theorem c186 {h0 h : am_H} {a b : Nat} {L : Nat → Nat → Prop} {C : Nat → Nat → am_C} {P : Nat → Nat → Nat} {q n bk cap l y ci : Nat} {md : Int32} {f : Nat → Option Nat} (g : XG h0 a b h L C P) (ll : L 11 q) (hp : P 11 q = l) (hC : C 11 q = .inr (0, [.int md, .ref bk, .int (nI n)])) (ho : am_obj h y = some ci) (hn : n ≤ cap) (hn4 : n ≤ 399) (hc6 : cap ≤ 600) (hb : (cap = 0 ∧ bk = 1) ∨ (10 ≤ cap ∧ bk = P 8 q ∧ L 8 q ∧ C 8 q = .inl (3, cap, .inr (.inr (.inr (.inr f)))))) (hf : ∀ j, j < n → ∃ y ci, f j = some y ∧ am_obj h y = some ci) (hf2 : ∀ j, n ≤ j → f j = none) : am_ev 186 [.ref l, .ref y] h (xAdd h0 a b L C P q n y md f cap) := by
  subst hp
  have hl : h[P 11 q]? = some (.inr (0, [.int md, .ref bk, .int (nI n)])) := hC ▸ g.at ll
  have g1 := g.st (c := .inr (0, [.int (md + 1), .ref bk, .int (nI n)])) ll (by rw [hC]; rfl)
  have hl1 : (h.set (P 11 q) (.inr (0, [.int (md + 1), .ref bk, .int (nI n)])))[P 11 q]? = some (.inr (0, [.int (md + 1), .ref bk, .int (nI n)])) := List.getElem?_set_self (x_lt hl)
  have ho1 : ∀ y ci, am_obj h y = some ci → am_obj (h.set (P 11 q) (.inr (0, [.int (md + 1), .ref bk, .int (nI n)]))) y = some ci := by
    intro y ci ho
    unfold am_obj at ho ⊢
    by_cases e : P 11 q = y
    · subst e
      rw [hl] at ho
      rw [hl1]
      exact ho
    · rw [List.getElem?_set_ne e]
      exact ho
  have ho2 := ho1 y ci ho
  have hf1 : am_cpr (h.set (P 11 q) (.inr (0, [.int (md + 1), .ref bk, .int (nI n)]))) f 0 n = true := x_cpr_i (fun j hj => by obtain ⟨y, ci, e1, e2⟩ := hf j hj; exact ⟨y, ci, e1, ho1 y ci e2⟩)
  show am_wp _ (_, [_, _], _) _ _
  refine w_aload_n s186_0 rfl ?_
  refine w_dup_r s186_1 ?_
  refine w_getf s186_2 hl rfl ?_
  refine w_iconst (v := 1) s186_5 rfl ?_
  refine w_iadd s186_6 rfl ?_
  refine w_putf s186_7 (by decide +kernel) hl rfl rfl ?_
  show am_wp _ (_, _, _) (h.set (P 11 q) (.inr (0, [.int (md + 1), .ref bk, .int (nI n)]))) _
  refine w_aload_n s186_10 rfl ?_
  refine w_aload_n s186_11 rfl ?_
  refine w_aload_n s186_12 rfl ?_
  refine w_getf s186_13 hl1 rfl ?_
  refine w_aload_n s186_16 rfl ?_
  refine w_getf s186_17 hl1 rfl ?_
  rcases hb with ⟨e1, e2⟩ | ⟨h10, e2, l8, hC8⟩
  · subst e1 e2
    obtain rfl : n = 0 := by omega
    have hfn : f = fun _ => none := funext (fun j => hf2 j (Nat.zero_le _))
    subst hfn
    refine w_callV3 s186_20 hl1 ow185 mc186_185 rfl rfl (c185a hl1 g1.2.2.2.2.2.2 ho2) ?_
    rintro v h1 ⟨rfl, rfl⟩
    show am_wp _ (_, _, _) _ _
    refine w_iconst (v := 1) s186_23 rfl ?_
    refine w_zret1 s186_24 rk186 ?_
    have g2 := g1.nw 8 q (.inl (3, 10, .inr (.inr (.inr (.inr (fun _ => none))))))
    rw [List.length_set] at g2 ⊢
    have g3 := g2.st (k := 11) (i := q) (c := .inr (0, [.int (md + 1), .ref h.length, .int (nI 0)])) (Or.inr ll) (by rw [u2_k _ _ (by decide), u2_s]; rfl)
    have g4 := g3.st (k := 8) (i := q) (c := .inl (3, 10, .inr (.inr (.inr (.inr (va_up (fun _ => none) 0 (some y))))))) (Or.inl ⟨rfl, rfl⟩) (by rw [u2_k _ _ (by decide), u2_s]; rfl)
    have g5 := g4.st (k := 11) (i := q) (c := .inr (0, [.int (md + 1), .ref h.length, .int (nI 1)])) (Or.inr ll) (by rw [u2_k _ _ (by decide), u2_s]; rfl)
    rw [u2_k _ _ (show (11 : Nat) ≠ 8 by decide), u2_s] at g5
    refine ⟨rfl, 10, u2 P 8 q h.length, fun k i hk => if_neg hk, by decide, by decide, by decide, ?_⟩
    exact g5.cg (Nat.le_refl _) (by show b + 10 ≤ _; omega) (fun k i lk => ⟨lk, by rw [u2_s P 8 q]; exact x_u2n lk⟩)
  · subst e2
    have hb1 : (h.set (P 11 q) (.inr (0, [.int (md + 1), .ref (P 8 q), .int (nI n)])))[P 8 q]? = some (.inl (3, cap, .inr (.inr (.inr (.inr f))))) := by
      have := g1.at l8
      rwa [u2_k _ _ (by decide), hC8] at this
    have h83 := (g.2.2.1 _ _ l8).1
    have hne : P 8 q ≠ P 11 q := fun e => absurd (g.2.1 _ _ _ _ l8 ll e).1 (by decide)
    rcases Nat.lt_or_ge n cap with hlt | hge
    · refine w_callV3 s186_20 hl1 ow185 mc186_185 rfl rfl (c185c hl1 hb1 ho2 hlt (by omega) hne) ?_
      rintro v h1 ⟨rfl, rfl⟩
      show am_wp _ (_, _, _) _ _
      refine w_iconst (v := 1) s186_23 rfl ?_
      refine w_zret1 s186_24 rk186 ?_
      have g4 := g1.st (k := 8) (i := q) (c := .inl (3, cap, .inr (.inr (.inr (.inr (va_up f n (some y))))))) l8 (by rw [u2_k _ _ (by decide), hC8]; rfl)
      have g5 := g4.st (k := 11) (i := q) (c := .inr (0, [.int (md + 1), .ref (P 8 q), .int (nI (n + 1))])) ll (by rw [u2_k _ _ (by decide), u2_s]; rfl)
      refine ⟨rfl, cap, P, fun _ _ _ => rfl, hlt, hc6, h10, ?_⟩
      exact g5.cg (Nat.le_succ _) (Nat.le_add_right _ _) (fun k i lk => ⟨lk.elim (fun e => by rw [e.1, e.2]; exact l8) id, x_u2m lk⟩)
    · obtain rfl : n = cap := by omega
      refine w_callV3 s186_20 hl1 ow185 mc186_185 rfl rfl (c185b hl1 hb1 h83 h10 (by omega) hf1 ho2) ?_
      rintro v h1 ⟨rfl, rfl⟩
      show am_wp _ (_, _, _) _ _
      refine w_iconst (v := 1) s186_23 rfl ?_
      refine w_zret1 s186_24 rk186 ?_
      rw [x_cpy_all hf2]
      have g2 := g1.nw 8 q (.inl (3, n + n / 2, .inr (.inr (.inr (.inr f)))))
      rw [List.length_set] at g2 ⊢
      have g3 := g2.st (k := 11) (i := q) (c := .inr (0, [.int (md + 1), .ref h.length, .int (nI n)])) (Or.inr ll) (by rw [u2_k _ _ (by decide), u2_s]; rfl)
      have g4 := g3.st (k := 8) (i := q) (c := .inl (3, n + n / 2, .inr (.inr (.inr (.inr (va_up f n (some y))))))) (Or.inl ⟨rfl, rfl⟩) (by rw [u2_k _ _ (by decide), u2_s]; rfl)
      have g5 := g4.st (k := 11) (i := q) (c := .inr (0, [.int (md + 1), .ref h.length, .int (nI (n + 1))])) (Or.inr ll) (by rw [u2_k _ _ (by decide), u2_s]; rfl)
      rw [u2_k _ _ (show (11 : Nat) ≠ 8 by decide), u2_s] at g5
      refine ⟨rfl, n + n / 2, u2 P 8 q h.length, fun k i hk => if_neg hk, by omega, by omega, by omega, ?_⟩
      exact g5.cg (Nat.le_refl _) (by show b + (n + n / 2) ≤ _; omega) (fun k i lk => ⟨lk, by rw [u2_s P 8 q]; exact x_u2n lk⟩)
theorem XL.get {h0 h : am_H} {a b : Nat} {cc : Nat → Nat} {aa : Nat → Nat → Int32} {P : x_P} {D : x_D} (hx : XL h0 a b h cc aa P D) (q : Nat) (hq : q < 6) (i : Nat) (hi : i < xn cc q) : am_rd 184 [.ref (4 + q), .int (nI i)] h (.ref (P q i)) := by
  have hc := hx.cap q hq
  exact c184 (hx.l q hq) (hx.ba q hq (by omega)) hi hc.1 (by omega) (if_pos hi)
theorem XL.size {h0 h : am_H} {a b : Nat} {cc : Nat → Nat} {aa : Nat → Nat → Int32} {P : x_P} {D : x_D} (hx : XL h0 a b h cc aa P D) (q : Nat) (hq : q < 6) : am_rd 181 [.ref (4 + q)] h (.int (nI (xn cc q))) := c181 (hx.l q hq)
theorem XL.emp {h0 h : am_H} {a b : Nat} {cc : Nat → Nat} {aa : Nat → Nat → Int32} {P : x_P} {D : x_D} (hx : XL h0 a b h cc aa P D) (q : Nat) (hq : q < 6) : am_rd 182 [.ref (4 + q)] h (.int (am_bi (decide (xn cc q = 0)))) := by
  have hc := hx.cap q hq
  exact c182 (hx.l q hq) (by omega)
