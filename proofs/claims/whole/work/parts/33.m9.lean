/-! the round: the least walk over a set of squares -/
def x_W (aa : Nat → Nat → Int32) (a b : Nat) : Nat := tn (x_walks aa (nI a) (nI b))
/-- the best over a set, given the rows of smaller sets -/
def x_bf (aa : Nat → Nat → Int32) (T : Nat → Nat → Nat) (s f : Nat) (to b : Nat) : Nat := if s.testBit to = true then (if x_W aa f to + T (s - 2 ^ to) to < b then x_W aa f to + T (s - 2 ^ to) to else b) else b
def x_best (aa : Nat → Nat → Int32) (T : Nat → Nat → Nat) (s f : Nat) : Nat → Nat := x_it (x_bf aa T s f) (if s = 0 then 0 else 1000000)
def x_T (aa : Nat → Nat → Int32) (m : Nat) : Nat → Nat → Nat → Nat
  | 0 => fun _ _ => 0
  | n + 1 => fun s f => if s = n then x_best aa (x_T aa m n) n f m else x_T aa m n s f
def x_L (aa : Nat → Nat → Int32) (m s f : Nat) : Nat := x_best aa (x_T aa m s) s f m
theorem x_T_L (aa : Nat → Nat → Int32) (m : Nat) : ∀ n s f, s < n → x_T aa m n s f = x_L aa m s f
  | 0, s, f, h => by cases h
  | n + 1, s, f, h => by
    show (if s = n then x_best aa (x_T aa m n) n f m else x_T aa m n s f) = _
    by_cases e : s = n
    · rw [if_pos e, e]
      rfl
    · rw [if_neg e]
      exact x_T_L aa m n s f (by omega)
theorem x_bit_le {s t : Nat} (h : s.testBit t = true) : 2 ^ t ≤ s := Nat.ge_two_pow_of_testBit h
theorem x_it_c {α : Type} {g g' : Nat → α → α} {a : α} : ∀ n, (∀ i, i < n → ∀ x, g i x = g' i x) → x_it g a n = x_it g' a n
  | 0, _ => rfl
  | n + 1, h => by
    rw [x_it_s, x_it_s, x_it_c n (fun i hi => h i (by omega)), h n (by omega)]
/-- the table's rule -/
theorem x_L_eq (aa : Nat → Nat → Int32) (m s f : Nat) : x_L aa m s f = x_best aa (x_L aa m) s f m := by
  unfold x_L x_best
  refine x_it_c m (fun i hi b => ?_)
  unfold x_bf
  by_cases c : s.testBit i = true
  · rw [if_pos c, if_pos c]
    have := x_bit_le c
    have := Nat.two_pow_pos i
    rw [x_T_L aa m s (s - 2 ^ i) i (by omega)]
    rfl
  · rw [if_neg c, if_neg c]
theorem x_L_0 (aa : Nat → Nat → Int32) (m f : Nat) : x_L aa m 0 f = 0 := by
  rw [x_L_eq]
  unfold x_best
  have : ∀ n, x_it (x_bf aa (x_L aa m) 0 f) (if 0 = 0 then 0 else 1000000) n = 0 := by
    intro n
    induction n with
    | zero => rfl
    | succ n ih =>
      rw [x_it_s, ih]
      unfold x_bf
      rw [if_neg (by simp)]
  exact this m
/-- the way over a next square -/
def x_V (aa : Nat → Nat → Int32) (m s f to : Nat) : Nat := x_W aa f to + x_L aa m (s - 2 ^ to) to
theorem x_best_lo (aa : Nat → Nat → Int32) (m s f : Nat) : ∀ n to, to < n → s.testBit to = true → x_best aa (x_L aa m) s f n ≤ x_V aa m s f to
  | 0, _, h, _ => by cases h
  | n + 1, to, h, c => by
    unfold x_best
    rw [x_it_s]
    show x_bf aa (x_L aa m) s f n (x_best aa (x_L aa m) s f n) ≤ _
    unfold x_bf
    by_cases e : to = n
    · subst e
      rw [if_pos c]
      split
      · exact Nat.le_refl _
      · unfold x_V
        omega
    · have ih := x_best_lo aa m s f n to (by omega) c
      split
      · split <;> omega
      · exact ih
theorem x_best_hi (aa : Nat → Nat → Int32) (m s f : Nat) (h0 : s ≠ 0) : ∀ n, x_best aa (x_L aa m) s f n = 1000000 ∨ ∃ to, to < n ∧ s.testBit to = true ∧ x_best aa (x_L aa m) s f n = x_V aa m s f to
  | 0 => Or.inl (if_neg h0)
  | n + 1 => by
    unfold x_best
    rw [x_it_s]
    show x_bf aa (x_L aa m) s f n (x_best aa (x_L aa m) s f n) = _ ∨ ∃ to, to < n + 1 ∧ s.testBit to = true ∧ x_bf aa (x_L aa m) s f n (x_best aa (x_L aa m) s f n) = _
    unfold x_bf
    have ih := x_best_hi aa m s f h0 n
    by_cases c : s.testBit n = true
    · rw [if_pos c]
      by_cases d : x_W aa f n + x_L aa m (s - 2 ^ n) n < x_best aa (x_L aa m) s f n
      · rw [if_pos d]
        exact Or.inr ⟨n, by omega, c, rfl⟩
      · rw [if_neg d]
        rcases ih with e | ⟨t, a, b, e⟩
        · exact Or.inl e
        · exact Or.inr ⟨t, by omega, b, e⟩
    · rw [if_neg c]
      rcases ih with e | ⟨t, a, b, e⟩
      · exact Or.inl e
      · exact Or.inr ⟨t, by omega, b, e⟩
theorem x_bit_ex {s m : Nat} (h0 : s ≠ 0) (hm : s < 2 ^ m) : ∃ t, t < m ∧ s.testBit t = true := by
  obtain ⟨t, ht⟩ := Nat.exists_testBit_of_ne_zero h0
  refine ⟨t, ?_, ht⟩
  rcases Nat.lt_or_ge t m with d | d
  · exact d
  · have := x_bit_le ht
    have := Nat.pow_le_pow_right (n := 2) (by decide) d
    omega
/-- walks are short -/
def x_short (aa : Nat → Nat → Int32) (m : Nat) : Prop := ∀ a b, a < m → b < m → x_W aa a b ≤ 120 ∧ x_walks aa (nI a) (nI b) = nI (x_W aa a b)
theorem x_L_b {aa : Nat → Nat → Int32} {m : Nat} (hs : x_short aa m) : ∀ n s f, s < n → s < 2 ^ m → f < m → x_L aa m s f ≤ 120 * s
  | 0, _, _, h, _, _ => by cases h
  | n + 1, s, f, h, h2, hf => by
    by_cases h0 : s = 0
    · subst h0
      rw [x_L_0]
      exact Nat.zero_le _
    · obtain ⟨t, ht, hb⟩ := x_bit_ex h0 h2
      have h3 := x_bit_le hb
      have h4 := Nat.two_pow_pos t
      rw [x_L_eq]
      have h5 := x_best_lo aa m s f m t ht hb
      have h6 := x_L_b hs n (s - 2 ^ t) t (by omega) (by omega) ht
      have h7 := (hs f t hf ht).1
      unfold x_V at h5
      omega
theorem x_V_b {aa : Nat → Nat → Int32} {m s f t : Nat} (hs : x_short aa m) (hm : m ≤ 10) (h2 : s < 2 ^ m) (hf : f < m) (ht : t < m) (hb : s.testBit t = true) : x_V aa m s f t < 130000 := by
  have h3 := x_bit_le hb
  have h4 := Nat.two_pow_pos t
  have h6 := x_L_b hs (s - 2 ^ t + 1) (s - 2 ^ t) t (by omega) (by omega) ht
  have h7 := (hs f t hf ht).1
  have h8 := Nat.pow_le_pow_right (n := 2) (by decide) hm
  unfold x_V
  omega
theorem x_L_hi {aa : Nat → Nat → Int32} {m s f : Nat} (hs : x_short aa m) (hm : m ≤ 10) (h0 : s ≠ 0) (h2 : s < 2 ^ m) (hf : f < m) : ∃ t, t < m ∧ s.testBit t = true ∧ x_L aa m s f = x_V aa m s f t := by
  rcases x_best_hi aa m s f h0 m with e | ⟨t, a, b, e⟩
  · have h3 := x_L_b hs (s + 1) s f (by omega) h2 hf
    have h8 := Nat.pow_le_pow_right (n := 2) (by decide) hm
    rw [x_L_eq, e] at h3
    omega
  · exact ⟨t, a, b, by rw [x_L_eq, e]⟩
/-- the next square of the round -/
def x_nx1 (aa : Nat → Nat → Int32) (m s f to : Nat) : Bool := s.testBit to && decide (x_V aa m s f to = x_L aa m s f)
/-- how many places before the first that is so -/
def x_fi (p : Nat → Bool) : Nat → Nat
  | 0 => 0
  | n + 1 => if x_any p n = true then x_fi p n else n
theorem x_fi_t {p : Nat → Bool} {i : Nat} (h1 : x_any p i = false) (h2 : p i = true) : ∀ n, i < n → x_fi p n = i
  | 0, c => by omega
  | n + 1, c => by
    unfold x_fi
    by_cases e : i = n
    · subst e
      rw [h1]
      rfl
    · rw [x_any_t h2 n (by omega), if_pos rfl]
      exact x_fi_t h1 h2 n (by omega)
def x_nxt (aa : Nat → Nat → Int32) (m s f : Nat) : Nat := x_fi (x_nx1 aa m s f) m
theorem x_nxt_p {aa : Nat → Nat → Int32} {m s f : Nat} (hs : x_short aa m) (hm : m ≤ 10) (h0 : s ≠ 0) (h2 : s < 2 ^ m) (hf : f < m) : x_nxt aa m s f < m ∧ x_nx1 aa m s f (x_nxt aa m s f) = true ∧ x_any (x_nx1 aa m s f) (x_nxt aa m s f) = false := by
  obtain ⟨t, a, b, e⟩ := x_L_hi hs hm h0 h2 hf
  have h1 : x_any (x_nx1 aa m s f) m = true := x_any_t (i := t) (by unfold x_nx1; rw [b, decide_eq_true e.symm]; rfl) m a
  obtain ⟨i, i1, i2, i3⟩ := x_any_i h1
  have h4 : x_nxt aa m s f = i := x_fi_t i3 i2 m i1
  rw [h4]
  exact ⟨i1, i2, i3⟩
/-- the round's row: (left, at, how many, row) -/
def x_rs (aa : Nat → Nat → Int32) (m : Nat) (t : Nat × Nat × Nat × (Nat → Int32)) : Nat × Nat × Nat × (Nat → Int32) := if t.1 = 0 then t else (t.1 - 2 ^ x_nxt aa m t.1 t.2.1, x_nxt aa m t.1 t.2.1, t.2.2.1 + 1, upd t.2.2.2 t.2.2.1 (nI (x_nxt aa m t.1 t.2.1)))
def x_rt (aa : Nat → Nat → Int32) (m s f : Nat) (r : Nat → Int32) : Nat → Nat × Nat × Nat × (Nat → Int32) := x_it (fun _ => x_rs aa m) (s, f, 0, r)
theorem x_rt_s (aa : Nat → Nat → Int32) (m s f : Nat) (r : Nat → Int32) (k : Nat) : x_rt aa m s f r (k + 1) = x_rs aa m (x_rt aa m s f r k) := rfl
def x_pop (s : Nat) : Nat → Nat := x_ct (fun k => s.testBit k)
theorem x_hasN {s t : Nat} (hs : s < 2 ^ 31) (ht : t < 32) : x_has (nI s) (nI t) = s.testBit t := by
  unfold x_has
  rw [pk_shrN hs _ t (x_sh t ht), pk_andN (Nat.lt_of_le_of_lt (Nat.div_le_self _ _) (by omega)) 1 (by decide), Nat.testBit_eq_decide_div_mod_eq]
  apply decide_eq_decide.mpr
  show nI (s / 2 ^ t % 2 ^ 1) = nI 1 ↔ _
  rw [nI_eq (by omega) (by decide)]
theorem x_clr : ∀ s, s < 1024 → ∀ t, t < 10 → s.testBit t = true → nI s &&& ((1 <<< (nI t &&& 31)) ^^^ (-1)) = nI (s - 2 ^ t) := by decide +kernel
theorem x_xor : ∀ s, s < 1024 → ∀ t, t < 10 → s.testBit t = true → nI s ^^^ (1 <<< (nI t &&& 31)) = nI (s - 2 ^ t) := by decide +kernel
theorem x_ad_n {x y : Nat} (hx : x ≤ 60) (hy : y ≤ 60) : ∃ d, d ≤ 60 ∧ x_ad (nI x) (nI y) = nI d := by
  unfold x_ad
  by_cases c : x ≤ y
  · rw [if_pos ((nI_leI (by omega) (by omega)).mpr c), pk_sub c]
    exact ⟨y - x, by omega, rfl⟩
  · rw [if_neg (fun d => c ((nI_leI (by omega) (by omega)).mp d)), pk_sub (by omega)]
    exact ⟨x - y, by omega, rfl⟩
theorem IV.short {cc : Nat → Nat} {aa : Nat → Nat → Int32} (iv : IV cc aa) : x_short aa (cc 3) := by
  intro a b ha hb
  have n3 := iv.n3
  obtain ⟨⟨x1, h1, e1⟩, ⟨y1, h2, e2⟩⟩ := iv.sq a ha
  obtain ⟨⟨x2, h3, e3⟩, ⟨y2, h4, e4⟩⟩ := iv.sq b hb
  obtain ⟨d1, h5, e5⟩ := x_ad_n h1 h3
  obtain ⟨d2, h6, e6⟩ := x_ad_n h2 h4
  have e : x_walks aa (nI a) (nI b) = nI (d1 + d2) := by
    unfold x_walks tn
    rw [nI_clamp (show a < 2 ^ 31 by omega), nI_clamp (show b < 2 ^ 31 by omega), e1, e2, e3, e4, e5, e6, nI_add]
  have e' : x_W aa a b = d1 + d2 := by
    unfold x_W
    rw [e]
    exact nI_clamp (by omega)
  rw [e', e]
  exact ⟨by omega, rfl⟩
theorem x_best_s (aa : Nat → Nat → Int32) (T : Nat → Nat → Nat) (s f to : Nat) : x_best aa T s f (to + 1) = x_bf aa T s f to (x_best aa T s f to) := rfl
theorem x_best_le (aa : Nat → Nat → Int32) (T : Nat → Nat → Nat) (s f : Nat) : ∀ n, x_best aa T s f n ≤ 1000000
  | 0 => by
    show (if s = 0 then 0 else 1000000) ≤ 1000000
    split <;> omega
  | n + 1 => by
    have ih := x_best_le aa T s f n
    rw [x_best_s]
    unfold x_bf
    split
    · split <;> omega
    · exact ih
/-- what holds of the table behind setLeast -/
def mQL (h0 : am_H) (cc : Nat → Nat) (aa : Nat → Nat → Int32) (t : Nat → Int32) (s : Nat) (v : Option Value) (h : am_H) : Prop := v = none ∧ ∃ t', MW h cc (ua aa 44 t') ∧ mFr h0 h ∧ (∀ f, f < cc 3 → t' (10 * s + f) = nI (x_L aa (cc 3) s f)) ∧ (∀ k, (k < 10 * s ∨ 10 * s + 10 ≤ k) → t' k = t k)
theorem c166 {h : am_H} {cc : Nat → Nat} {aa : Nat → Nat → Int32} {t : Nat → Int32} (hw : MW h cc (ua aa 44 t)) (n3 : cc 3 ≤ 10) (hs : x_short aa (cc 3)) (s : Nat) (h2 : s < 2 ^ cc 3) (hsub : ∀ u, u < cc 3 → s.testBit u = true → t (10 * (s - 2 ^ u) + u) = nI (x_L aa (cc 3) (s - 2 ^ u) u)) : am_ev 166 [.ref 27, .int (nI s)] h (mQL h cc aa t s) := by
  have fr := mFr.rf h
  have h10 := Nat.pow_le_pow_right (n := 2) (by decide) n3
  show am_wp _ (_, [_, _, _, _, _, _], _) _ _
  refine w_iconst (v := 0) s166_0 rfl ?_
  refine w_istore_n s166_1 rfl ?_
  show am_wp _ (_, [_, _, _, _, _, _], _) _ _
  refine am_lp (n := cc 3) (P := fun f => ∀ h t1 v3 v4 v5, MW h cc (ua aa 44 t1) → mFr _ h → (∀ f1, f1 < f → t1 (10 * s + f1) = nI (x_L aa (cc 3) s f1)) → (∀ k, (k < 10 * s ∨ 10 * s + 10 ≤ k) → t1 k = t k) → am_wp 166 (2, [_, _, some (.int (nI f)), v3, v4, v5], []) h _) ?_ 0 (Nat.zero_le _) h t _ _ _ hw fr (fun _ c => by cases c) (fun _ _ => rfl)
  clear hw fr; try clear h
  intro f hf ihf h t1 v3 v4 v5 hw fr hA hB
  show am_wp _ (_, [_, _, _, _, _, _], _) _ _
  refine w_iload_n s166_2 rfl ?_
  refine w_aload_n s166_3 rfl ?_
  refine w_getf s166_4 (hw 0 _ rfl) rfl ?_
  refine w_icmpgeN (x := f) (y := cc 3) s166_7 rfl (by omega) (by omega)  (fun c7 => ?_) (fun c7 => ?_)
  · skip
    have e : f = cc 3 := by omega
    subst e
    refine w_vret s166_113 rk166 ?_
    exact ⟨rfl, t1, hw, fr, hA, hB⟩
  · skip
    refine w_iload_n s166_10 rfl ?_
    refine w_ifneN (x := s) s166_11 rfl (by omega)  (fun c11 => ?_) (fun c11 => ?_)
    · skip
      have hini : (if s = 0 then 0 else 1000000) = 1000000 := if_neg c11
      refine w_ldc (v := 1000000) s166_18 rfl ?_
      refine w_istore_n s166_20 rfl ?_
      show am_wp _ (_, [_, _, _, _, _, _], _) _ _
      refine w_iconst (v := 0) s166_21 rfl ?_
      refine w_istore s166_22 rfl ?_
      show am_wp _ (_, [_, _, _, _, _, _], _) _ _
      refine am_wp_l (am_cons rfl (am_cons rfl (am_cons rfl (am_cons (am_si ?_) (am_cons rfl (am_cons rfl rfl)))))) (am_lp (n := cc 3) (P := fun u => ∀ v5, am_wp 166 (24, [_, _, _, some (.int (nI (x_best aa (x_L aa (cc 3)) s f u))), some (.int (nI u)), v5], []) h _) ?_ 0 (Nat.zero_le _) _)
      · show nI (if s = 0 then 0 else 1000000) = _
        rw [hini]
        rfl
      intro u hu ihu v5
      show am_wp _ (_, [_, _, _, _, _, _], _) _ _
      refine w_iload s166_24 rfl ?_
      refine w_aload_n s166_26 rfl ?_
      refine w_getf s166_27 (hw 0 _ rfl) rfl ?_
      refine w_icmpgeN (x := u) (y := cc 3) s166_30 rfl (by omega) (by omega)  (fun c30 => ?_) (fun c30 => ?_)
      · skip
        have e : u = cc 3 := by omega
        subst e
        refine w_aload_n s166_95 rfl ?_
        refine w_getf s166_96 (hw 0 _ rfl) rfl ?_
        refine w_bipush (v := 10) s166_99 rfl ?_
        refine w_iload_n s166_101 rfl ?_
        refine w_imulN (x := 10) (y := s) s166_102 ?_
        refine w_iload_n s166_103 rfl ?_
        refine w_iaddN (x := (10 * s)) (y := f) s166_104 ?_
        refine w_iload_n s166_105 rfl ?_
        rw [← x_L_eq]
        refine m_st44 (y := ((10 * s) + f)) s166_106 hw fr (by omega) (fun h hw fr => ?_)
        refine w_iinc s166_107 rfl (nI_inc (f)) rfl ?_
        show am_wp _ (_, [_, _, _, _, _, _], _) _ _
        refine w_goto s166_110 rfl ?_
        refine ihf (by omega) h _ _ _ _ (hw.cg rfl (by rw [ua_s, ua_ua])) fr (fun f1 h1 => ?_) (fun k hk => ?_)
        · by_cases e : f1 = f
          · rw [e, pk_us]
          · rw [pk_un (by omega)]
            exact hA f1 (by omega)
        · rw [pk_un (by omega)]
          exact hB k hk
      · skip
        refine w_iload_n s166_33 rfl ?_
        refine w_iload s166_34 rfl ?_
        refine w_callS2r s166_36 mc166_105 rfl rfl ((x_hasN (s := s) (t := u) (by omega) (by omega)) ▸ c105 (nI s) (nI u) _) ?_
        skip
        refine w_ifeqB s166_39 rfl  (fun c39 => ?_) (fun c39 => ?_)
        · skip
          have hble := x_best_le aa (x_L aa (cc 3)) s f u
          refine w_ldc (v := 1000000) s166_72 rfl ?_
          refine w_istore s166_74 rfl ?_
          show am_wp _ (_, [_, _, _, _, _, _], _) _ _
          refine w_iload s166_76 rfl ?_
          refine w_iload_n s166_78 rfl ?_
          refine w_icmpgeN (x := 1000000) (y := (x_best aa (x_L aa (cc 3)) s f u)) s166_79 rfl (by omega) (by omega)  (fun c79 => ?_) (fun c79 => ?_)
          · skip
            refine w_iload_n s166_87 rfl ?_
            refine w_istore_n s166_88 rfl ?_
            show am_wp _ (_, [_, _, _, _, _, _], _) _ _
            refine w_iinc s166_89 rfl (nI_inc (u)) rfl ?_
            show am_wp _ (_, [_, _, _, _, _, _], _) _ _
            refine w_goto s166_92 rfl ?_
            refine am_wp_l (am_cons rfl (am_cons rfl (am_cons rfl (am_cons (am_si ?_) (am_cons rfl (am_cons rfl rfl)))))) (ihu (by omega) _)
            rw [x_best_s]
            unfold x_bf
            first | (exfalso; omega) | rw [c39, if_pos rfl, if_neg (by omega)] | rw [c39, if_pos rfl, if_pos (by omega)] | (rw [c39]; rfl)
          · skip
            exact absurd c79 (by omega)
        · skip
          have hbl := x_bit_le c39
          have hW := hs f u (by omega) (by omega)
          have hLb := x_L_b hs (s - 2 ^ u + 1) (s - 2 ^ u) u (by omega) (Nat.lt_of_le_of_lt (Nat.sub_le _ _) h2) (by omega)
          have h2u := Nat.two_pow_pos u
          refine w_aload_n s166_42 rfl ?_
          refine w_iload_n s166_43 rfl ?_
          refine w_iload s166_44 rfl ?_
          refine w_callV2r s166_46 (hw 0 _ rfl) ow109 mc166_109 rfl rfl (show am_rd 109 _ _ (.int (x_walks aa (nI f) (nI u))) from c109 hw n3 _ _ (x_ix_n (by omega) (by omega)) (x_ix_n (by omega) (by omega))) ?_
          rw [hW.2]
          refine w_aload_n s166_49 rfl ?_
          refine w_getf s166_50 (hw 0 _ rfl) rfl ?_
          refine w_bipush (v := 10) s166_53 rfl ?_
          refine w_iload_n s166_55 rfl ?_
          refine w_iconst (v := 1) s166_56 rfl ?_
          refine w_iload s166_57 rfl ?_
          refine w_ishl s166_59 rfl ?_
          refine w_iconst (v := (-1)) s166_60 rfl ?_
          refine w_ixor s166_61 rfl ?_
          refine w_iand s166_62 (x_clr s (by omega) u (by omega) c39) ?_
          refine w_imulN (x := 10) (y := (s - 2 ^ u)) s166_63 ?_
          refine w_iload s166_64 rfl ?_
          refine w_iaddN (x := (10 * (s - 2 ^ u))) (y := u) s166_66 ?_
          refine w_ialdV (y := ((10 * (s - 2 ^ u)) + u)) (v := nI (x_L aa (cc 3) (s - 2 ^ u) u)) s166_67 (hw 35 _ rfl) (by omega) (by decide) (by show t1 _ = _; rw [hB _ (Or.inl (by omega))]; exact hsub u (by omega) c39) ?_
          refine w_iaddN (x := (x_W aa f u)) (y := (x_L aa (cc 3) (s - 2 ^ u) u)) s166_68 ?_
          refine w_goto s166_69 rfl ?_
          refine w_istore s166_74 rfl ?_
          show am_wp _ (_, [_, _, _, _, _, _], _) _ _
          refine w_iload s166_76 rfl ?_
          refine w_iload_n s166_78 rfl ?_
          have hble := x_best_le aa (x_L aa (cc 3)) s f u
          refine w_icmpgeN (x := ((x_W aa f u) + (x_L aa (cc 3) (s - 2 ^ u) u))) (y := (x_best aa (x_L aa (cc 3)) s f u)) s166_79 rfl (by omega) (by omega)  (fun c79 => ?_) (fun c79 => ?_)
          · skip
            refine w_iload_n s166_87 rfl ?_
            refine w_istore_n s166_88 rfl ?_
            show am_wp _ (_, [_, _, _, _, _, _], _) _ _
            refine w_iinc s166_89 rfl (nI_inc (u)) rfl ?_
            show am_wp _ (_, [_, _, _, _, _, _], _) _ _
            refine w_goto s166_92 rfl ?_
            refine am_wp_l (am_cons rfl (am_cons rfl (am_cons rfl (am_cons (am_si ?_) (am_cons rfl (am_cons rfl rfl)))))) (ihu (by omega) _)
            rw [x_best_s]
            unfold x_bf
            first | (exfalso; omega) | rw [c39, if_pos rfl, if_neg (by omega)] | rw [c39, if_pos rfl, if_pos (by omega)] | (rw [c39]; rfl)
          · skip
            refine w_iload s166_82 rfl ?_
            refine w_goto s166_84 rfl ?_
            refine w_istore_n s166_88 rfl ?_
            show am_wp _ (_, [_, _, _, _, _, _], _) _ _
            refine w_iinc s166_89 rfl (nI_inc (u)) rfl ?_
            show am_wp _ (_, [_, _, _, _, _, _], _) _ _
            refine w_goto s166_92 rfl ?_
            refine am_wp_l (am_cons rfl (am_cons rfl (am_cons rfl (am_cons (am_si ?_) (am_cons rfl (am_cons rfl rfl)))))) (ihu (by omega) _)
            rw [x_best_s]
            unfold x_bf
            first | (exfalso; omega) | rw [c39, if_pos rfl, if_neg (by omega)] | rw [c39, if_pos rfl, if_pos (by omega)] | (rw [c39]; rfl)
    · skip
      have hini : (if s = 0 then 0 else 1000000) = 0 := if_pos c11
      refine w_iconst (v := 0) s166_14 rfl ?_
      refine w_goto s166_15 rfl ?_
      refine w_istore_n s166_20 rfl ?_
      show am_wp _ (_, [_, _, _, _, _, _], _) _ _
      refine w_iconst (v := 0) s166_21 rfl ?_
      refine w_istore s166_22 rfl ?_
      show am_wp _ (_, [_, _, _, _, _, _], _) _ _
      refine am_wp_l (am_cons rfl (am_cons rfl (am_cons rfl (am_cons (am_si ?_) (am_cons rfl (am_cons rfl rfl)))))) (am_lp (n := cc 3) (P := fun u => ∀ v5, am_wp 166 (24, [_, _, _, some (.int (nI (x_best aa (x_L aa (cc 3)) s f u))), some (.int (nI u)), v5], []) h _) ?_ 0 (Nat.zero_le _) _)
      · show nI (if s = 0 then 0 else 1000000) = _
        rw [hini]
        rfl
      intro u hu ihu v5
      show am_wp _ (_, [_, _, _, _, _, _], _) _ _
      refine w_iload s166_24 rfl ?_
      refine w_aload_n s166_26 rfl ?_
      refine w_getf s166_27 (hw 0 _ rfl) rfl ?_
      refine w_icmpgeN (x := u) (y := cc 3) s166_30 rfl (by omega) (by omega)  (fun c30 => ?_) (fun c30 => ?_)
      · skip
        have e : u = cc 3 := by omega
        subst e
        refine w_aload_n s166_95 rfl ?_
        refine w_getf s166_96 (hw 0 _ rfl) rfl ?_
        refine w_bipush (v := 10) s166_99 rfl ?_
        refine w_iload_n s166_101 rfl ?_
        refine w_imulN (x := 10) (y := s) s166_102 ?_
        refine w_iload_n s166_103 rfl ?_
        refine w_iaddN (x := (10 * s)) (y := f) s166_104 ?_
        refine w_iload_n s166_105 rfl ?_
        rw [← x_L_eq]
        refine m_st44 (y := ((10 * s) + f)) s166_106 hw fr (by omega) (fun h hw fr => ?_)
        refine w_iinc s166_107 rfl (nI_inc (f)) rfl ?_
        show am_wp _ (_, [_, _, _, _, _, _], _) _ _
        refine w_goto s166_110 rfl ?_
        refine ihf (by omega) h _ _ _ _ (hw.cg rfl (by rw [ua_s, ua_ua])) fr (fun f1 h1 => ?_) (fun k hk => ?_)
        · by_cases e : f1 = f
          · rw [e, pk_us]
          · rw [pk_un (by omega)]
            exact hA f1 (by omega)
        · rw [pk_un (by omega)]
          exact hB k hk
      · skip
        refine w_iload_n s166_33 rfl ?_
        refine w_iload s166_34 rfl ?_
        refine w_callS2r s166_36 mc166_105 rfl rfl ((x_hasN (s := s) (t := u) (by omega) (by omega)) ▸ c105 (nI s) (nI u) _) ?_
        skip
        refine w_ifeqB s166_39 rfl  (fun c39 => ?_) (fun c39 => ?_)
        · skip
          have hble := x_best_le aa (x_L aa (cc 3)) s f u
          refine w_ldc (v := 1000000) s166_72 rfl ?_
          refine w_istore s166_74 rfl ?_
          show am_wp _ (_, [_, _, _, _, _, _], _) _ _
          refine w_iload s166_76 rfl ?_
          refine w_iload_n s166_78 rfl ?_
          refine w_icmpgeN (x := 1000000) (y := (x_best aa (x_L aa (cc 3)) s f u)) s166_79 rfl (by omega) (by omega)  (fun c79 => ?_) (fun c79 => ?_)
          · skip
            refine w_iload_n s166_87 rfl ?_
            refine w_istore_n s166_88 rfl ?_
            show am_wp _ (_, [_, _, _, _, _, _], _) _ _
            refine w_iinc s166_89 rfl (nI_inc (u)) rfl ?_
            show am_wp _ (_, [_, _, _, _, _, _], _) _ _
            refine w_goto s166_92 rfl ?_
            refine am_wp_l (am_cons rfl (am_cons rfl (am_cons rfl (am_cons (am_si ?_) (am_cons rfl (am_cons rfl rfl)))))) (ihu (by omega) _)
            rw [x_best_s]
            unfold x_bf
            first | (exfalso; omega) | rw [c39, if_pos rfl, if_neg (by omega)] | rw [c39, if_pos rfl, if_pos (by omega)] | (rw [c39]; rfl)
          · skip
            exact absurd c79 (by omega)
        · skip
          have hbl := x_bit_le c39
          have hW := hs f u (by omega) (by omega)
          have hLb := x_L_b hs (s - 2 ^ u + 1) (s - 2 ^ u) u (by omega) (Nat.lt_of_le_of_lt (Nat.sub_le _ _) h2) (by omega)
          have h2u := Nat.two_pow_pos u
          refine w_aload_n s166_42 rfl ?_
          refine w_iload_n s166_43 rfl ?_
          refine w_iload s166_44 rfl ?_
          refine w_callV2r s166_46 (hw 0 _ rfl) ow109 mc166_109 rfl rfl (show am_rd 109 _ _ (.int (x_walks aa (nI f) (nI u))) from c109 hw n3 _ _ (x_ix_n (by omega) (by omega)) (x_ix_n (by omega) (by omega))) ?_
          rw [hW.2]
          refine w_aload_n s166_49 rfl ?_
          refine w_getf s166_50 (hw 0 _ rfl) rfl ?_
          refine w_bipush (v := 10) s166_53 rfl ?_
          refine w_iload_n s166_55 rfl ?_
          refine w_iconst (v := 1) s166_56 rfl ?_
          refine w_iload s166_57 rfl ?_
          refine w_ishl s166_59 rfl ?_
          refine w_iconst (v := (-1)) s166_60 rfl ?_
          refine w_ixor s166_61 rfl ?_
          refine w_iand s166_62 (x_clr s (by omega) u (by omega) c39) ?_
          refine w_imulN (x := 10) (y := (s - 2 ^ u)) s166_63 ?_
          refine w_iload s166_64 rfl ?_
          refine w_iaddN (x := (10 * (s - 2 ^ u))) (y := u) s166_66 ?_
          refine w_ialdV (y := ((10 * (s - 2 ^ u)) + u)) (v := nI (x_L aa (cc 3) (s - 2 ^ u) u)) s166_67 (hw 35 _ rfl) (by omega) (by decide) (by show t1 _ = _; rw [hB _ (Or.inl (by omega))]; exact hsub u (by omega) c39) ?_
          refine w_iaddN (x := (x_W aa f u)) (y := (x_L aa (cc 3) (s - 2 ^ u) u)) s166_68 ?_
          refine w_goto s166_69 rfl ?_
          refine w_istore s166_74 rfl ?_
          show am_wp _ (_, [_, _, _, _, _, _], _) _ _
          refine w_iload s166_76 rfl ?_
          refine w_iload_n s166_78 rfl ?_
          have hble := x_best_le aa (x_L aa (cc 3)) s f u
          refine w_icmpgeN (x := ((x_W aa f u) + (x_L aa (cc 3) (s - 2 ^ u) u))) (y := (x_best aa (x_L aa (cc 3)) s f u)) s166_79 rfl (by omega) (by omega)  (fun c79 => ?_) (fun c79 => ?_)
          · skip
            refine w_iload_n s166_87 rfl ?_
            refine w_istore_n s166_88 rfl ?_
            show am_wp _ (_, [_, _, _, _, _, _], _) _ _
            refine w_iinc s166_89 rfl (nI_inc (u)) rfl ?_
            show am_wp _ (_, [_, _, _, _, _, _], _) _ _
            refine w_goto s166_92 rfl ?_
            refine am_wp_l (am_cons rfl (am_cons rfl (am_cons rfl (am_cons (am_si ?_) (am_cons rfl (am_cons rfl rfl)))))) (ihu (by omega) _)
            rw [x_best_s]
            unfold x_bf
            first | (exfalso; omega) | rw [c39, if_pos rfl, if_neg (by omega)] | rw [c39, if_pos rfl, if_pos (by omega)] | (rw [c39]; rfl)
          · skip
            refine w_iload s166_82 rfl ?_
            refine w_goto s166_84 rfl ?_
            refine w_istore_n s166_88 rfl ?_
            show am_wp _ (_, [_, _, _, _, _, _], _) _ _
            refine w_iinc s166_89 rfl (nI_inc (u)) rfl ?_
            show am_wp _ (_, [_, _, _, _, _, _], _) _ _
            refine w_goto s166_92 rfl ?_
            refine am_wp_l (am_cons rfl (am_cons rfl (am_cons rfl (am_cons (am_si ?_) (am_cons rfl (am_cons rfl rfl)))))) (ihu (by omega) _)
            rw [x_best_s]
            unfold x_bf
            first | (exfalso; omega) | rw [c39, if_pos rfl, if_neg (by omega)] | rw [c39, if_pos rfl, if_pos (by omega)] | (rw [c39]; rfl)
theorem x_popd : ∀ s, s < 1024 → ∀ t, t < 10 → s.testBit t = true → x_pop (s - 2 ^ t) 10 + 1 = x_pop s 10 := by decide +kernel
theorem x_pop10 : ∀ s, s < 1024 → x_pop s 10 ≤ 10 := by decide +kernel
theorem x_subs : ∀ s, s < 1024 → nI s &&& (nI s ^^^ (-1)) = 0 := by decide +kernel
def x_sub (n s : Nat) : Prop := nI n &&& (nI s ^^^ (-1)) = 0
theorem x_sub_c {n s u : Nat} (h : x_sub n s) (hn : n < 1024) (hu : u < 10) (hb : n.testBit u = true) : x_sub (n - 2 ^ u) s := by
  unfold x_sub at h ⊢
  rw [← x_clr n hn u hu hb, Int32.and_comm (nI n), Int32.and_assoc, h]
  exact Int32.and_zero
theorem x_rt_f {aa : Nat → Nat → Int32} {m s f : Nat} {r : Nat → Int32} {k : Nat} (h : (x_rt aa m s f r k).1 = 0) : ∀ d, x_rt aa m s f r (k + d) = x_rt aa m s f r k
  | 0 => rfl
  | d + 1 => by
    have ih := x_rt_f h d
    rw [show k + (d + 1) = (k + d) + 1 from rfl, x_rt_s, ih]
    unfold x_rs
    rw [if_pos h]
theorem x_any_n {p : Nat → Bool} : ∀ {n i : Nat}, x_any p n = false → i < n → p i = false
  | 0, _, _, c => by omega
  | n + 1, i, h, c => by
    rw [x_any_s, Bool.or_eq_false_iff] at h
    by_cases e : i = n
    · rw [e]
      exact h.2
    · exact x_any_n h.1 (by omega)
def x_R (cc : Nat → Nat) (aa : Nat → Nat → Int32) (c s : Int32) : Nat × Nat × Nat × (Nat → Int32) := x_rt aa (cc 3) (tn s) (tn (aa 29 (tn c))) (aa 46) 10
def S_round (cc : Nat → Nat) (aa : Nat → Nat → Int32) (c s : Int32) : x_A := if x_ix (cc 28) c = true ∧ x_arq (cc 3) s = true then (nI (x_L aa (cc 3) (tn s) (tn (aa 29 (tn c)))), uc cc 45 (x_R cc aa c s).2.2.1, ua aa 46 (x_R cc aa c s).2.2.2) else (-1, cc, aa)
def mQR (h0 : am_H) (S : x_A) (v : Option Value) (h : am_H) : Prop := v = some (.int S.1) ∧ ∃ t, MW h S.2.1 (ua S.2.2 44 t) ∧ mFr h0 h
theorem x_arq_e {m : Nat} {s : Int32} (hm : m ≤ 10) (h : x_arq m s = true) : ∃ j, j < 2 ^ m ∧ s = nI j := by
  have h1 := of_decide_eq_true h
  refine ⟨s.toInt.toNat, by omega, ?_⟩
  apply Int32.toInt_inj.mp
  have h2 := s.toInt_lt
  rw [nI_toInt (by omega)]
  omega
theorem c167 {h : am_H} {cc : Nat → Nat} {aa : Nat → Nat → Int32} (hw : MW h cc aa) (iv : IV cc aa) (c s : Int32) : am_ev 167 [.ref 27, .int c, .int s] h (mQR h (S_round cc aa c s)) := by
  have fr := mFr.rf h
  have n0 := iv.n0
  have n2 := iv.n2
  have n3 := iv.n3
  have n7 := iv.n7
  have n8 := iv.n8
  have n16 := iv.n16
  have n20 := iv.n20
  have n28 := iv.n28
  have n31 := iv.n31
  have n38 := iv.n38
  have n45 := iv.n45
  show am_wp _ (_, [_, _, _, _, _, _, _], _) _ _
  refine w_aload_n s167_0 rfl ?_
  refine w_iload_n s167_1 rfl ?_
  refine w_callV1r s167_2 (hw 0 _ rfl) ow148 mc167_148 rfl rfl (c148 hw iv _) ?_
  refine w_ifeqB s167_5 rfl  (fun c5 => ?_) (fun c5 => ?_)
  · skip
    skip
    refine w_iconst (v := (-1)) s167_16 rfl ?_
    refine w_iret s167_17 rk167 ?_
    rw [show S_round cc aa c s = (-1, cc, aa) from (by unfold S_round; rw [if_neg (by simp [*])])]
    exact ⟨rfl, aa 44, (ua_id aa 44).symm ▸ hw, fr⟩
  · skip
    skip
    refine w_aload_n s167_8 rfl ?_
    refine w_iload_n s167_9 rfl ?_
    refine w_callV1r s167_10 (hw 0 _ rfl) ow134 mc167_134 rfl rfl (c134 hw n3 s) ?_
    refine w_ifneB s167_13 rfl  (fun c13 => ?_) (fun c13 => ?_)
    · skip
      obtain ⟨ci, hci, rfl⟩ := x_ix_i c5
      obtain ⟨sj, hsj, rfl⟩ := x_arq_e n3 c13
      have hs := iv.short
      have h10 := Nat.pow_le_pow_right (n := 2) (by decide) n3
      obtain ⟨q0, hq0, eq0⟩ := x_ix_i (iv.cr ci hci)
      have ecl := nI_clamp (show ci < 2 ^ 31 by omega)
      have esl := nI_clamp (show sj < 2 ^ 31 by omega)
      have hS : S_round cc aa (nI ci) (nI sj) = (nI (x_L aa (cc 3) sj q0), uc cc 45 (x_rt aa (cc 3) sj q0 (aa 46) 10).2.2.1, ua aa 46 (x_rt aa (cc 3) sj q0 (aa 46) 10).2.2.2) := by
        unfold S_round x_R tn
        rw [if_pos ⟨c5, c13⟩, ecl, esl, eq0, nI_clamp (show q0 < 2 ^ 31 by omega)]
      rw [hS]
      clear hS
      refine w_iconst (v := 0) s167_18 rfl ?_
      refine w_istore_n s167_19 rfl ?_
      show am_wp _ (_, [_, _, _, _, _, _, _], _) _ _
      refine am_lp (n := sj + 1) (P := fun n => ∀ h t, MW h cc (ua aa 44 t) → mFr _ h → (∀ s1, s1 < n → x_sub s1 sj → ∀ f, f < cc 3 → t (10 * s1 + f) = nI (x_L aa (cc 3) s1 f)) → am_wp 167 (20, [_, _, _, some (.int (nI n)), _, _, _], []) h _) ?_ 0 (Nat.zero_le _) h (aa 44) ((ua_id aa 44).symm ▸ hw) fr (fun _ c => by cases c)
      clear hw fr; try clear h
      intro n hn ihn h t hw fr hT
      show am_wp _ (_, [_, _, _, _, _, _, _], _) _ _
      refine w_iload_n s167_20 rfl ?_
      refine w_iload_n s167_21 rfl ?_
      refine w_icmpgtN (x := n) (y := sj) s167_22 rfl (by omega) (by omega)  (fun c22 => ?_) (fun c22 => ?_)
      · skip
        have en : n = sj + 1 := by omega
        subst en
        refine w_aload_n s167_44 rfl ?_
        refine w_getf s167_45 (hw 0 _ rfl) rfl ?_
        refine w_iload_n s167_48 rfl ?_
        refine w_ialdV (y := ci) (v := nI q0) s167_49 (hw 22 _ rfl) (by omega) (by decide) eq0 ?_
        refine w_istore_n s167_50 rfl ?_
        show am_wp _ (_, [_, _, _, _, _, _, _], _) _ _
        refine w_aload_n s167_51 rfl ?_
        refine w_getf s167_52 (hw 0 _ rfl) rfl ?_
        refine w_bipush (v := 10) s167_55 rfl ?_
        refine w_iload_n s167_57 rfl ?_
        refine w_imulN (x := 10) (y := sj) s167_58 ?_
        refine w_iload_n s167_59 rfl ?_
        refine w_iaddN (x := (10 * sj)) (y := q0) s167_60 ?_
        refine w_ialdV (y := ((10 * sj) + q0)) (v := nI (x_L aa (cc 3) sj q0)) s167_61 (hw 35 _ rfl) (by omega) (by decide) (hT sj (by omega) (x_subs sj (by omega)) q0 hq0) ?_
        refine w_istore s167_62 rfl ?_
        show am_wp _ (_, [_, _, _, _, _, _, _], _) _ _
        refine w_iload_n s167_64 rfl ?_
        refine w_istore s167_65 rfl ?_
        show am_wp _ (_, [_, _, _, _, _, _, _], _) _ _
        refine w_aload_n s167_67 rfl ?_
        refine w_iconst (v := 0) s167_68 rfl ?_
        refine m_pf45 (v := 0) s167_69 hw fr (fun h hw fr => ?_)
        refine am_lp (n := 10) (P := fun k => ∀ h L at_ row v6, x_rt aa (cc 3) sj q0 (aa 46) k = (L, at_, k, row) → x_sub L sj → L ≤ sj → at_ < cc 3 → k + x_pop L 10 = x_pop sj 10 → MW h (uc cc 45 k) (ua (ua aa 44 t) 46 row) → mFr _ h → am_wp 167 (72, [_, _, _, some (.int (nI at_)), _, some (.int (nI L)), v6], []) h _) ?_ 0 (Nat.zero_le _) h sj q0 (aa 46) none rfl (x_subs sj (by omega)) (Nat.le_refl _) hq0 (Nat.zero_add _) (hw.cg rfl (ua_id (ua aa 44 t) 46).symm) fr
        clear hw fr; try clear h
        intro k hk ihk h L at_ row v6 hR hLs hLe hat hpc hw fr
        show am_wp _ (_, [_, _, _, _, _, _, _], _) _ _
        refine w_iload s167_72 rfl ?_
        refine w_ifeqN (x := L) s167_74 rfl (by omega)  (fun c74 => ?_) (fun c74 => ?_)
        · skip
          subst c74
          refine w_iload s167_177 rfl ?_
          refine w_iret s167_179 rk167 ?_
          have e10 : x_rt aa (cc 3) sj q0 (aa 46) 10 = x_rt aa (cc 3) sj q0 (aa 46) k := by
            have e9 := x_rt_f (aa := aa) (m := cc 3) (s := sj) (f := q0) (r := aa 46) (k := k) (by rw [hR]) (10 - k)
            rwa [show k + (10 - k) = 10 by omega] at e9
          rw [e10, hR]
          exact ⟨rfl, t, hw.cg rfl (by rw [ua_c _ _ _ (by decide)]), fr⟩
        · skip
          obtain ⟨hx1, hx2, hx3⟩ := x_nxt_p (aa := aa) (f := at_) hs n3 c74 (by omega) hat
          have hbn : L.testBit (x_nxt aa (cc 3) L at_) = true := (Bool.and_eq_true_iff.mp hx2).1
          have hVn : x_V aa (cc 3) L at_ (x_nxt aa (cc 3) L at_) = x_L aa (cc 3) L at_ := of_decide_eq_true (Bool.and_eq_true_iff.mp hx2).2
          have hpp := x_popd L (by omega) _ (by omega) hbn
          have hpq := x_pop10 sj (by omega)
          refine w_iconst (v := 0) s167_77 rfl ?_
          refine w_istore s167_78 rfl ?_
          show am_wp _ (_, [_, _, _, _, _, _, _], _) _ _
          refine am_lp (n := x_nxt aa (cc 3) L at_) (P := fun u => am_wp 167 (80, [_, _, _, _, _, _, some (.int (nI u))], []) h _) ?_ 0 (Nat.zero_le _)
          intro u hu ihu
          show am_wp _ (_, [_, _, _, _, _, _, _], _) _ _
          refine w_iload s167_80 rfl ?_
          refine w_iload s167_82 rfl ?_
          refine w_callS2r s167_84 mc167_105 rfl rfl ((x_hasN (s := L) (t := u) (by omega) (by omega)) ▸ c105 (nI L) (nI u) _) ?_
          refine w_ifeqB s167_87 rfl  (fun c87 => ?_) (fun c87 => ?_)
          · skip
            have hne : u ≠ x_nxt aa (cc 3) L at_ := by
              intro e
              rw [← e, c87] at hbn
              cases hbn
            refine w_iinc s167_133 rfl (nI_inc (u)) rfl ?_
            show am_wp _ (_, [_, _, _, _, _, _, _], _) _ _
            refine w_goto s167_136 rfl ?_
            exact ihu (by omega)
          · skip
            have hbl := x_bit_le c87
            have hW := hs at_ u hat (by omega)
            have hVb := x_V_b hs n3 (show L < 2 ^ cc 3 by omega) hat (show u < cc 3 by omega) c87
            have h2u := Nat.two_pow_pos u
            have hLb := x_L_b hs (L + 1) L at_ (by omega) (by omega) hat
            have eV : x_W aa at_ u + x_L aa (cc 3) (L - 2 ^ u) u = x_V aa (cc 3) L at_ u := rfl
            refine w_aload_n s167_90 rfl ?_
            refine w_iload_n s167_91 rfl ?_
            refine w_iload s167_92 rfl ?_
            refine w_callV2r s167_94 (hw 0 _ rfl) ow109 mc167_109 rfl rfl (show am_rd 109 _ _ (.int (x_walks aa (nI at_) (nI u))) from c109 hw n3 _ _ (x_ix_n (show at_ < cc 3 by omega) (show cc 3 < 2 ^ 31 by omega)) (x_ix_n (show u < cc 3 by omega) (show cc 3 < 2 ^ 31 by omega))) ?_
            rw [hW.2]
            refine w_aload_n s167_97 rfl ?_
            refine w_getf s167_98 (hw 0 _ rfl) rfl ?_
            refine w_bipush (v := 10) s167_101 rfl ?_
            refine w_iload s167_103 rfl ?_
            refine w_iconst (v := 1) s167_105 rfl ?_
            refine w_iload s167_106 rfl ?_
            refine w_ishl s167_108 rfl ?_
            refine w_iconst (v := (-1)) s167_109 rfl ?_
            refine w_ixor s167_110 rfl ?_
            refine w_iand s167_111 (x_clr L (by omega) u (by omega) c87) ?_
            refine w_imulN (x := 10) (y := (L - 2 ^ u)) s167_112 ?_
            refine w_iload s167_113 rfl ?_
            refine w_iaddN (x := (10 * (L - 2 ^ u))) (y := u) s167_115 ?_
            refine w_ialdV (y := ((10 * (L - 2 ^ u)) + u)) (v := nI (x_L aa (cc 3) (L - 2 ^ u) u)) s167_116 (hw 35 _ rfl) (by omega) (by decide) (hT _ (by omega) (x_sub_c hLs (by omega) (by omega) c87) u (by omega)) ?_
            refine w_iaddN (x := (x_W aa at_ u)) (y := (x_L aa (cc 3) (L - 2 ^ u) u)) s167_117 ?_
            refine w_aload_n s167_118 rfl ?_
            refine w_getf s167_119 (hw 0 _ rfl) rfl ?_
            refine w_bipush (v := 10) s167_122 rfl ?_
            refine w_iload s167_124 rfl ?_
            refine w_imulN (x := 10) (y := L) s167_126 ?_
            refine w_iload_n s167_127 rfl ?_
            refine w_iaddN (x := (10 * L)) (y := at_) s167_128 ?_
            refine w_ialdV (y := ((10 * L) + at_)) (v := nI (x_L aa (cc 3) L at_)) s167_129 (hw 35 _ rfl) (by omega) (by decide) (hT L (by omega) hLs at_ hat) ?_
            refine w_icmpeqN (x := ((x_W aa at_ u) + (x_L aa (cc 3) (L - 2 ^ u) u))) (y := (x_L aa (cc 3) L at_)) s167_130 rfl (by omega) (by omega)  (fun c130 => ?_) (fun c130 => ?_)
            · skip
              have eu : u = x_nxt aa (cc 3) L at_ := by
                rcases Nat.lt_or_ge u (x_nxt aa (cc 3) L at_) with d | d
                · have h9 := x_any_n hx3 d
                  unfold x_nx1 at h9
                  rw [c87, ← eV, decide_eq_true c130] at h9
                  cases h9
                · omega
              refine w_aload_n s167_139 rfl ?_
              refine w_getf s167_140 (hw 0 _ rfl) rfl ?_
              refine w_aload_n s167_143 rfl ?_
              refine w_getf s167_144 (hw 0 _ rfl) rfl ?_
              refine w_iload s167_147 rfl ?_
              refine m_st46 (y := k) s167_149 hw fr (by omega) (fun h hw fr => ?_)
              refine w_aload_n s167_150 rfl ?_
              refine w_dup_r s167_151 ?_
              refine w_getf s167_152 (hw 0 _ rfl) rfl ?_
              refine w_iconst (v := 1) s167_155 rfl ?_
              refine w_iaddN (x := k) (y := 1) s167_156 ?_
              refine m_pf45 (v := (k + 1)) s167_157 hw fr (fun h hw fr => ?_)
              refine w_iload s167_160 rfl ?_
              refine w_iconst (v := 1) s167_162 rfl ?_
              refine w_iload s167_163 rfl ?_
              refine w_ishl s167_165 rfl ?_
              refine w_iconst (v := (-1)) s167_166 rfl ?_
              refine w_ixor s167_167 rfl ?_
              refine w_iand s167_168 (x_clr L (by omega) u (by omega) c87) ?_
              refine w_istore s167_169 rfl ?_
              show am_wp _ (_, [_, _, _, _, _, _, _], _) _ _
              refine w_iload s167_171 rfl ?_
              refine w_istore_n s167_173 rfl ?_
              show am_wp _ (_, [_, _, _, _, _, _, _], _) _ _
              refine w_goto s167_174 rfl ?_
              have eR : x_rt aa (cc 3) sj q0 (aa 46) (k + 1) = (L - 2 ^ u, u, k + 1, upd row k (nI u)) := by
                rw [x_rt_s, hR]
                unfold x_rs
                rw [if_neg c74, ← eu]
              rw [← eu] at hpp
              exact ihk (by omega) h _ _ _ _ eR (x_sub_c hLs (by omega) (by omega) c87) (by omega) (by omega) (by omega) (hw.cg (by rw [uc_uc]) (by rw [ua_s, ua_ua])) fr
            · skip
              have hne : u ≠ x_nxt aa (cc 3) L at_ := by
                intro e
                rw [← e] at hVn
                exact c130 (eV.trans hVn)
              refine w_iinc s167_133 rfl (nI_inc (u)) rfl ?_
              show am_wp _ (_, [_, _, _, _, _, _, _], _) _ _
              refine w_goto s167_136 rfl ?_
              exact ihu (by omega)
      · skip
        refine w_iload_n s167_25 rfl ?_
        refine w_iload_n s167_26 rfl ?_
        refine w_iconst (v := (-1)) s167_27 rfl ?_
        refine w_ixor s167_28 rfl ?_
        refine w_iand s167_29 rfl ?_
        refine w_ifne s167_30 rfl  (fun c30 => ?_) (fun c30 => ?_)
        · skip
          refine w_iinc s167_38 rfl (nI_inc (n)) rfl ?_
          show am_wp _ (_, [_, _, _, _, _, _, _], _) _ _
          refine w_goto s167_41 rfl ?_
          first | refine ihn (by omega) h _ hw fr (fun s1 h1 hs1 f hf => ?_) | refine ihn (by omega) h _ hw fr (fun s1 h1 hs1 f hf => ?_)
          by_cases e : s1 = n
          · subst e
            first | exact hA f hf | exact absurd hs1 c30
          · first | (rw [hB _ (by omega)]; exact hT s1 (by omega) hs1 f hf) | exact hT s1 (by omega) hs1 f hf
        · skip
          refine w_aload_n s167_33 rfl ?_
          refine w_iload_n s167_34 rfl ?_
          refine w_callV1 s167_35 (hw 0 _ rfl) ow166 mc167_166 rfl rfl (c166 hw n3 hs n (by omega) (fun u hu hb => hT _ (by have := x_bit_le hb; have := Nat.two_pow_pos u; omega) (x_sub_c c30 (by omega) (by omega) hb) u hu)) ?_
          rintro v h ⟨rfl, t1, hw, fr2, hA, hB⟩
          replace fr := fr.tr fr2
          clear fr2
          show am_wp _ (_, _, _) _ _
          refine w_iinc s167_38 rfl (nI_inc (n)) rfl ?_
          show am_wp _ (_, [_, _, _, _, _, _, _], _) _ _
          refine w_goto s167_41 rfl ?_
          first | refine ihn (by omega) h _ hw fr (fun s1 h1 hs1 f hf => ?_) | refine ihn (by omega) h _ hw fr (fun s1 h1 hs1 f hf => ?_)
          by_cases e : s1 = n
          · subst e
            first | exact hA f hf | exact absurd hs1 c30
          · first | (rw [hB _ (by omega)]; exact hT s1 (by omega) hs1 f hf) | exact hT s1 (by omega) hs1 f hf
    · skip
      refine w_iconst (v := (-1)) s167_16 rfl ?_
      refine w_iret s167_17 rk167 ?_
      rw [show S_round cc aa c s = (-1, cc, aa) from (by unfold S_round; rw [if_neg (by simp [*])])]
      exact ⟨rfl, aa 44, (ua_id aa 44).symm ▸ hw, fr⟩
