/-! the law: class and reference side by side -/
theorem XL.mf {h0 h h' : am_H} {a b : Nat} {cc : Nat → Nat} {aa : Nat → Nat → Int32} {P : x_P} {D : x_D} (hx : XL h0 a b h cc aa P D) (f : mFr h h') : XL h' 0 0 h' cc aa P D := by
  obtain ⟨⟨g1, g2, g3, g4, g5, g6, g7⟩, hS⟩ := hx
  obtain ⟨f1, f2, f3⟩ := f
  refine ⟨⟨fun k i l => ?_, g2, g3, ⟨Nat.le_refl _, Nat.le_refl _, Nat.le_refl _⟩, fun _ _ => rfl, by omega, ?_⟩, hS⟩
  · rw [f3 _ (by have := g3 k i l; omega)]
    exact g1 k i l
  · rw [f3 1 (Or.inl (by decide))]
    exact g7
theorem MW.xf {h0 h : am_H} {a b : Nat} {cc : Nat → Nat} {aa : Nat → Nat → Int32} {L : Nat → Nat → Prop} {C : Nat → Nat → am_C} {P : x_P} (hw : MW h0 cc aa) (g : XG h0 a b h L C P) : MW h cc aa := by
  intro k c e
  have hk : k < 37 := (List.getElem?_eq_some_iff.mp e).1
  rw [g.2.2.2.2.1 (27 + k) (Or.inr ⟨by omega, by omega⟩)]
  exact hw k c e
def x_G (L : Nat) (xs : Nat → Int32) (n : Nat) (h : am_H) (cc : Nat → Nat) (aa : Nat → Nat → Int32) : Prop := (∃ P D, XL h 0 0 h cc aa P D) ∧ MW h cc aa ∧ IV cc aa ∧ h[0]? = some (.inl (9, L, .inl xs)) ∧ h.length ≤ 64 + 8 * n ∧ am_sz h ≤ L + 40000 + 14000 * n
theorem x_G_r {L : Nat} {xs : Nat → Int32} {n : Nat} {h : am_H} {cc : Nat → Nat} {aa : Nat → Nat → Int32} (g : x_G L xs n h cc aa) : x_G L xs (n + 1) h cc aa := ⟨g.1, g.2.1, g.2.2.1, g.2.2.2.1, by have := g.2.2.2.2.1; omega, by have := g.2.2.2.2.2; omega⟩
theorem x_G_m {L : Nat} {xs : Nat → Int32} {n : Nat} {h h1 h2 : am_H} {cc : Nat → Nat} {aa : Nat → Nat → Int32} (g : x_G L xs n h cc aa) {S : x_A} {P : x_P} {D : x_D} (hx : XL h 8 14000 h1 S.2.1 S.2.2 P D) (hw : MW h2 S.2.1 S.2.2) (f : mFr h1 h2) (iv : IV S.2.1 S.2.2) : x_G L xs (n + 1) h2 S.2.1 S.2.2 := by
  have e := hx.1.2.2.2.1
  have e5 := hx.1.2.2.2.2.1 0 (Or.inl (by decide))
  have g4 := g.2.2.2.2.1
  have g5 := g.2.2.2.2.2
  have f1 := f.1
  have f2 := f.2.1
  exact ⟨⟨P, D, hx.mf f⟩, hw, iv, (f.2.2 0 (Or.inl (by decide))).trans (e5.trans g.2.2.2.1), by omega, by omega⟩
theorem x_G_t {L : Nat} {xs : Nat → Int32} {n : Nat} {h h1 h2 : am_H} {cc : Nat → Nat} {aa : Nat → Nat → Int32} (g : x_G L xs n h cc aa) {S : x_A} {P : x_P} {D : x_D} {t : Nat → Int32} (hx : XL h 8 14000 h1 S.2.1 S.2.2 P D) (hw : MW h2 S.2.1 (ua S.2.2 44 t)) (f : mFr h1 h2) (iv : IV S.2.1 S.2.2) : x_G L xs (n + 1) h2 S.2.1 (ua S.2.2 44 t) := x_G_m (S := (S.1, S.2.1, ua S.2.2 44 t)) g (hx.a44 t) hw f (iv_a44 iv t)
theorem x_lgs (x : Int64) : lg_cmp x x = 0 := by
  unfold lg_cmp
  simp
/-! the beginning -/
def x_P0 : x_P := fun k i => if k = 9 then 24 else x_pin k i
def x_D0 : x_D := (fun _ => 0, fun _ => 0, 0, 0, fun _ => 0)
def x_dec (n : Nat) : Nat × Nat := match n with
  | 3 => (10, 0) | 4 => (11, 0) | 5 => (11, 1) | 6 => (11, 2) | 7 => (11, 3) | 8 => (11, 4) | 9 => (11, 5) | 10 => (12, 0)
  | 11 => (13, 0) | 13 => (13, 1) | 15 => (13, 2) | 17 => (13, 3) | 12 => (14, 0) | 14 => (14, 1) | 16 => (14, 2) | 18 => (14, 3)
  | 19 => (15, 0) | 20 => (16, 0) | 21 => (17, 0) | 22 => (18, 0) | 23 => (19, 0) | 24 => (9, 0) | 25 => (20, 0) | _ => (21, 0)
theorem x_l15 (n : Nat) {i : Nat} (l : xlive x_cc0 x_D0 (n + 15) i) : n + 15 ≤ 21 ∧ i = 0 := l
/-- what is there at the beginning -/
theorem x_live0 {k i : Nat} (l : xlive x_cc0 x_D0 k i) : (k = 9 ∧ i = 0) ∨ (k = 10 ∧ i = 0) ∨ (k = 11 ∧ i < 6) ∨ (k = 12 ∧ i = 0) ∨ (k = 13 ∧ i < 4) ∨ (k = 14 ∧ i < 4) ∨ (15 ≤ k ∧ k ≤ 21 ∧ i = 0) := match k, l with
  | 0, l => absurd l (Nat.not_lt_zero i) | 1, l => absurd l (Nat.not_lt_zero i) | 2, l => absurd l (Nat.not_lt_zero i) | 3, l => absurd l (Nat.not_lt_zero i) | 4, l => absurd l (Nat.not_lt_zero i) | 5, l => absurd l (Nat.not_lt_zero i) | 6, l => absurd l (Nat.not_lt_zero i) | 7, l => absurd l (Nat.not_lt_zero i)
  | 8, l => absurd l.2 (Nat.not_lt_zero 0) | 9, l => Or.inl ⟨rfl, l.2⟩ | 10, l => Or.inr (Or.inl ⟨rfl, l.2⟩) | 11, l => Or.inr (Or.inr (Or.inl ⟨rfl, l⟩)) | 12, l => Or.inr (Or.inr (Or.inr (Or.inl ⟨rfl, l.2⟩))) | 13, l => Or.inr (Or.inr (Or.inr (Or.inr (Or.inl ⟨rfl, l⟩)))) | 14, l => Or.inr (Or.inr (Or.inr (Or.inr (Or.inr (Or.inl ⟨rfl, l⟩)))))
  | n + 15, l => Or.inr (Or.inr (Or.inr (Or.inr (Or.inr (Or.inr ⟨by omega, x_l15 n l⟩)))))
theorem x_els0 : (fun s => if s < 4 then some (11 + 2 * s) else none) = va_up (va_up (va_up (va_up (fun _ => none) 0 (some 11)) 1 (some 13)) 2 (some 15)) 3 (some 17) := by
  funext s
  unfold va_up
  by_cases e0 : s = 0
  · subst e0; rfl
  · by_cases e1 : s = 1
    · subst e1; rfl
    · by_cases e2 : s = 2
      · subst e2; rfl
      · by_cases e3 : s = 3
        · subst e3; rfl
        · rw [if_neg (show ¬ s < 4 by omega), if_neg e3]
          show none = (if s = 2 then _ else _)
          rw [if_neg e2]
          show none = (if s = 1 then _ else _)
          rw [if_neg e1]
          show none = (if s = 0 then _ else _)
          rw [if_neg e0]
theorem x_rate0 : x_aa0 19 = fun k => if k < 6 then 1 else 0 := by
  funext s
  show upd (upd (upd (upd (upd (upd (fun _ => 0) 0 1) 1 1) 2 1) 3 1) 4 1) 5 1 s = _
  unfold upd
  by_cases d : s < 6
  · rw [if_pos d]
    obtain rfl | rfl | rfl | rfl | rfl | rfl : s = 0 ∨ s = 1 ∨ s = 2 ∨ s = 3 ∨ s = 4 ∨ s = 5 := by omega
    all_goals rfl
  · rw [if_neg d, if_neg (by omega), if_neg (by omega), if_neg (by omega), if_neg (by omega), if_neg (by omega), if_neg (by omega)]
theorem x_row0 (s : Nat) : x_row x_aa0 s = fun _ => 0 := by
  funext k
  show (if k < 80 then (0 : Int32) else 0) = 0
  split <;> rfl
def x_hs (L : Nat) (xs : Nat → Int32) : am_H := x_h0 (.inl (9, L, .inl xs)) (.inl (8, 0, .inr (.inr (.inr (.inr (fun _ => none)))))) (.inr (99, [])) ++ mw_all x_cc0 x_aa0
theorem x_at0 {L : Nat} {xs : Nat → Int32} {n : Nat} {c : am_C} (e : (x_h0 (.inl (9, L, .inl xs)) (.inl (8, 0, .inr (.inr (.inr (.inr (fun _ => none)))))) (.inr (99, [])))[n]? = some c) : (x_hs L xs)[n]? = some c := (List.getElem?_append_left (x_lt e)).trans e
theorem x_XL0 (L : Nat) (xs : Nat → Int32) : XL (x_hs L xs) 0 0 (x_hs L xs) x_cc0 x_aa0 x_P0 x_D0 := by
  refine ⟨⟨fun k i l => ?_, fun k i k2 i2 l l2 e => ?_, fun k i l => ?_, ⟨Nat.le_refl _, Nat.le_refl _, Nat.le_refl _⟩, fun _ _ => rfl, Nat.le_refl 64, rfl⟩, fun k i h1 h2 => if_neg (by omega), fun q hq => ?_, Nat.zero_le _, fun _ h => absurd h (Nat.not_lt_zero _)⟩
  · rcases x_live0 l with ⟨rfl, rfl⟩ | ⟨rfl, rfl⟩ | ⟨rfl, hi⟩ | ⟨rfl, rfl⟩ | ⟨rfl, hi⟩ | ⟨rfl, hi⟩ | ⟨h1, h2, rfl⟩
    · exact x_at0 rfl
    · exact x_at0 rfl
    · obtain rfl | rfl | rfl | rfl | rfl | rfl : i = 0 ∨ i = 1 ∨ i = 2 ∨ i = 3 ∨ i = 4 ∨ i = 5 := by omega
      all_goals exact x_at0 rfl
    · refine x_at0 ?_
      show _ = some (Sum.inl (4, 4, Sum.inr (Sum.inr (Sum.inr (Sum.inr (fun s => if s < 4 then some (11 + 2 * s) else none))))))
      rw [x_els0]
      rfl
    · obtain rfl | rfl | rfl | rfl : i = 0 ∨ i = 1 ∨ i = 2 ∨ i = 3 := by omega
      all_goals exact x_at0 rfl
    · refine x_at0 ?_
      show _ = some (Sum.inl (1, 80, Sum.inl (x_row x_aa0 i)))
      rw [x_row0]
      obtain rfl | rfl | rfl | rfl : i = 0 ∨ i = 1 ∨ i = 2 ∨ i = 3 := by omega
      all_goals rfl
    · obtain rfl | rfl | rfl | rfl | rfl | rfl | rfl : k = 15 ∨ k = 16 ∨ k = 17 ∨ k = 18 ∨ k = 19 ∨ k = 20 ∨ k = 21 := by omega
      · exact x_at0 rfl
      · exact x_at0 rfl
      · exact x_at0 rfl
      · exact x_at0 rfl
      · exact x_at0 rfl
      · refine x_at0 ?_
        show _ = some (Sum.inl (0, 6, Sum.inl (x_aa0 19)))
        rw [x_rate0]
        rfl
      · exact x_at0 rfl
  · have hd : ∀ k i, xlive x_cc0 x_D0 k i → x_dec (x_P0 k i) = (k, i) := by
      intro k i l
      rcases x_live0 l with ⟨rfl, rfl⟩ | ⟨rfl, rfl⟩ | ⟨rfl, hi⟩ | ⟨rfl, rfl⟩ | ⟨rfl, hi⟩ | ⟨rfl, hi⟩ | ⟨h1, h2, rfl⟩
      · rfl
      · rfl
      · obtain rfl | rfl | rfl | rfl | rfl | rfl : i = 0 ∨ i = 1 ∨ i = 2 ∨ i = 3 ∨ i = 4 ∨ i = 5 := by omega
        all_goals rfl
      · rfl
      · obtain rfl | rfl | rfl | rfl : i = 0 ∨ i = 1 ∨ i = 2 ∨ i = 3 := by omega
        all_goals rfl
      · obtain rfl | rfl | rfl | rfl : i = 0 ∨ i = 1 ∨ i = 2 ∨ i = 3 := by omega
        all_goals rfl
      · obtain rfl | rfl | rfl | rfl | rfl | rfl | rfl : k = 15 ∨ k = 16 ∨ k = 17 ∨ k = 18 ∨ k = 19 ∨ k = 20 ∨ k = 21 := by omega
        all_goals rfl
    have e2 := (hd k i l).symm.trans ((congrArg x_dec e).trans (hd k2 i2 l2))
    exact ⟨congrArg Prod.fst e2, congrArg Prod.snd e2⟩
  · rcases x_live0 l with ⟨rfl, rfl⟩ | ⟨rfl, rfl⟩ | ⟨rfl, hi⟩ | ⟨rfl, rfl⟩ | ⟨rfl, hi⟩ | ⟨rfl, hi⟩ | ⟨h1, h2, rfl⟩
    · decide
    · decide
    · show 3 ≤ 4 + i ∧ (4 + i < 27 ∨ 64 ≤ 4 + i)
      omega
    · decide
    · show 3 ≤ 11 + 2 * i ∧ (11 + 2 * i < 27 ∨ 64 ≤ 11 + 2 * i)
      omega
    · show 3 ≤ 12 + 2 * i ∧ (12 + 2 * i < 27 ∨ 64 ≤ 12 + 2 * i)
      omega
    · obtain rfl | rfl | rfl | rfl | rfl | rfl | rfl : k = 15 ∨ k = 16 ∨ k = 17 ∨ k = 18 ∨ k = 19 ∨ k = 20 ∨ k = 21 := by omega
      all_goals decide
  · obtain rfl | rfl | rfl | rfl | rfl | rfl : q = 0 ∨ q = 1 ∨ q = 2 ∨ q = 3 ∨ q = 4 ∨ q = 5 := by omega
    all_goals exact ⟨Nat.le_refl _, Nat.zero_le _, Or.inl rfl⟩
theorem x_IV0 : IV x_cc0 x_aa0 := by
  have z : ∀ {i : Nat} {p : Prop}, i < 0 → p := fun h => absurd h (Nat.not_lt_zero _)
  refine ⟨by decide, by decide, by decide, by decide, by decide, by decide, by decide, by decide, by decide, by decide, by decide, fun i h => z h, fun i h => z h, fun s h => ?_, fun k => rfl, fun i h => z h, fun k => rfl, fun i h => z h, fun i h => z h, fun i h => z h, fun i h => z h, fun i h => z h, fun i h => Or.inl rfl, fun i h h2 => rfl, fun i h => z h, fun i h h2 => rfl, fun i h => z h, fun i h => z h, fun i h => z h, fun i h => z h, fun i j h h2 => z h2, fun i h => z h, fun i h => z h, fun i h => z h⟩
  obtain rfl | rfl | rfl | rfl : s = 0 ∨ s = 1 ∨ s = 2 ∨ s = 3 := by omega
  all_goals exact Or.inl rfl
theorem x_G0 (L : Nat) (xs : Nat → Int32) : x_G L xs 0 (x_hs L xs) x_cc0 x_aa0 := by
  refine ⟨⟨x_P0, x_D0, x_XL0 L xs⟩, fun k c e => ?_, x_IV0, rfl, Nat.le_refl 64, ?_⟩
  · unfold x_hs
    rw [List.getElem?_append_right (show 27 ≤ 27 + k by omega), show 27 + k - (x_h0 (.inl (9, L, .inl xs)) (.inl (8, 0, .inr (.inr (.inr (.inr (fun _ => none)))))) (.inr (99, []))).length = k from Nat.add_sub_cancel_left 27 k]
    exact e
  · have e1 : am_sz (x_hs L xs) = am_sz (x_h0 (.inl (9, L, .inl xs)) (.inl (8, 0, .inr (.inr (.inr (.inr (fun _ => none)))))) (.inr (99, []))) + am_sz (mw_all x_cc0 x_aa0) := by
      unfold x_hs am_sz
      rw [List.map_append, List.sum_append]
    have e2 : am_sz (x_h0 (.inl (9, L, .inl xs)) (.inl (8, 0, .inr (.inr (.inr (.inr (fun _ => none)))))) (.inr (99, []))) ≤ L + 10000 := by
      unfold x_h0 am_sz
      simp only [List.map_cons, List.map_nil, List.sum_cons, List.sum_nil, am_sl, List.length_cons, List.length_nil]
      omega
    have e3 : am_sz (mw_all x_cc0 x_aa0) ≤ 30000 := by
      unfold mw_all mw_F am_sz
      simp only [List.map_cons, List.map_nil, List.sum_cons, List.sum_nil, am_sl, List.length_cons, List.length_nil]
      omega
    omega
