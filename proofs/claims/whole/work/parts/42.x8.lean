/-! what is put behind a list -/
theorem x_add {h0 h : am_H} {a b : Nat} {L : Nat → Nat → Prop} {C : Nat → Nat → am_C} {P1 : x_P} {D : x_D} {cc cc' : Nat → Nat} {aa' : Nat → Nat → Int32} {q n ci : Nat} {fs : List Value} (g : XG h0 a b h L C P1) (hq : q < 6) (hpin : ∀ k i, 10 ≤ k → k ≤ 21 → P1 k i = x_pin k i) (hcaps : ∀ i, i < 6 → xn cc i ≤ D.2.1 i ∧ D.2.1 i ≤ 600 ∧ (D.2.1 i = 0 ∨ 10 ≤ D.2.1 i)) (hn : xn cc q = n) (hn4 : n ≤ 399) (l11 : ∀ i, i < 6 → L 11 i) (c11 : ∀ i, i < 6 → C 11 i = .inr (0, [.int (D.1 i), .ref (xb P1 D i), .int (nI (xn cc i))])) (l8 : ∀ i, i < 6 → 0 < D.2.1 i → L 8 i ∧ C 8 i = .inl (3, D.2.1 i, .inr (.inr (.inr (.inr (x_els cc P1 i)))))) (hel : ∀ j, j < n → L q j ∧ ∃ ci fs, C q j = .inr (ci, fs) ∧ ci < 12) (lnew : L q n) (cnew : C q n = .inr (ci, fs)) (hci : ci < 12) (e1 : xn cc' q = n + 1) (e2 : ∀ i, i < 6 → i ≠ q → xn cc' i = xn cc i) (hL : ∀ D' k i, xlive cc' D' k i → k ≠ 8 → L k i) (hC : ∀ (P' : x_P) (D' : x_D) k i, (∀ k i, k ≠ 8 → P' k i = P1 k i) → D'.2.2 = D.2.2 → xlive cc' D' k i → k ≠ 8 → k ≠ 11 → xcell cc' aa' P' D' k i = C k i) (htab : x_tab cc' aa' D) : am_ev 186 [.ref (4 + q), .ref (P1 q n)] h (fun v h' => v = some (.int 1) ∧ ∃ P' D', (∀ k i, k ≠ 8 → P' k i = P1 k i) ∧ XL h0 (a + 1) (b + 600) h' cc' aa' P' D') := by
  obtain ⟨hc1, hc2, hc3⟩ := hcaps q hq
  rw [hn] at hc1
  have hcq := c11 q hq
  rw [hn] at hcq
  have hob : ∀ j ci fs, L q j → C q j = .inr (ci, fs) → ci < 12 → am_obj h (P1 q j) = some ci := fun j ci fs l e hc => x_obj_i (by rw [← e]; exact g.at l) hc
  refine am_wp.mp (c186 (q := q) (n := n) (f := x_els cc P1 q) (cap := D.2.1 q) g (l11 q hq) (hpin 11 q (by decide) (by decide)) hcq (hob n ci fs lnew cnew hci) hc1 hn4 hc2 ?_ ?_ ?_) ?_
  · rcases hc3 with e | e
    · exact Or.inl ⟨e, if_pos e⟩
    · exact Or.inr ⟨e, if_neg (by omega), (l8 q hq (by omega)).1, (l8 q hq (by omega)).2⟩
  · intro j hj
    obtain ⟨l, c, f, e, hc⟩ := hel j hj
    exact ⟨P1 q j, c, if_pos (by omega), hob j c f l e hc⟩
  · intro j hj
    exact if_neg (by omega)
  · rintro v h' ⟨rfl, cap', P', hP, hcp, hc6, hc10, g2⟩
    have hP' : ∀ k i, k ≠ 8 → P' k i = P1 k i := fun k i hk => hP k i (fun e => hk e.1)
    have hxb : ∀ i, i ≠ q → xb P' ((fun i => if i = q then D.1 q + 1 else D.1 i), (fun i => if i = q then cap' else D.2.1 i), D.2.2) i = xb P1 D i := by
      intro i hi
      show (if (if i = q then cap' else D.2.1 i) = 0 then 1 else P' 8 i) = (if D.2.1 i = 0 then 1 else P1 8 i)
      rw [if_neg hi, hP 8 i (fun e => hi e.2)]
    refine ⟨rfl, P', ((fun i => if i = q then D.1 q + 1 else D.1 i), (fun i => if i = q then cap' else D.2.1 i), D.2.2), hP', g2.cg (Nat.le_refl _) (Nat.le_refl _) (fun k i lk => ?_), ?_, ?_, ?_⟩
    · by_cases k8 : k = 8
      · subst k8
        have lk2 : i < 6 ∧ 0 < (if i = q then cap' else D.2.1 i) := lk
        by_cases hi : i = q
        · subst hi
          refine ⟨Or.inl ⟨rfl, rfl⟩, ?_⟩
          rw [u2_s]
          show Sum.inl (3, (if i = i then cap' else D.2.1 i), Sum.inr (Sum.inr (Sum.inr (Sum.inr (x_els cc' P' i))))) = _
          rw [if_pos rfl, show x_els cc' P' i = va_up (x_els cc P1 i) n (some (P1 i n)) from ?_]
          funext j
          unfold x_els va_up
          rw [e1, hn]
          by_cases d : j = n
          · subst d
            rw [if_pos (Nat.lt_succ_self _), if_pos rfl, hP' i j (by omega)]
          · rw [if_neg d]
            by_cases d2 : j < n
            · rw [if_pos (by omega), hP' i j (by omega)]
              exact (if_pos d2).symm
            · rw [if_neg (by omega)]
              exact (if_neg d2).symm
        · rw [if_neg hi] at lk2
          have l8i := l8 i lk2.1 lk2.2
          refine ⟨Or.inr l8i.1, ?_⟩
          rw [u2_i _ _ hi, u2_k _ _ (by decide), l8i.2]
          show Sum.inl (3, (if i = q then cap' else D.2.1 i), Sum.inr (Sum.inr (Sum.inr (Sum.inr (x_els cc' P' i))))) = _
          rw [if_neg hi, show x_els cc' P' i = x_els cc P1 i from ?_]
          funext j
          unfold x_els
          rw [e2 i lk2.1 hi, hP' i j (by omega)]
      · refine ⟨Or.inr (hL _ k i lk k8), ?_⟩
        rw [u2_k _ _ k8]
        by_cases k11 : k = 11
        · subst k11
          have hi6 : i < 6 := lk
          by_cases hi : i = q
          · subst hi
            rw [u2_s]
            show Sum.inr (0, [Value.int (if i = i then D.1 i + 1 else D.1 i), Value.ref (if (if i = i then cap' else D.2.1 i) = 0 then 1 else P' 8 i), Value.int (nI (xn cc' i))]) = _
            rw [if_pos rfl, if_pos rfl, if_neg (by omega), e1]
          · rw [u2_i _ _ hi, c11 i hi6]
            show Sum.inr (0, [Value.int (if i = q then D.1 q + 1 else D.1 i), Value.ref (xb P' _ i), Value.int (nI (xn cc' i))]) = _
            rw [if_neg hi, hxb i hi, e2 i hi6 hi]
        · rw [u2_k _ _ k11]
          exact hC P' _ k i hP' rfl lk k8 k11
    · intro k i h1 h2
      rw [hP' k i (by omega)]
      exact hpin k i h1 h2
    · intro i hi
      show xn cc' i ≤ (if i = q then cap' else D.2.1 i) ∧ (if i = q then cap' else D.2.1 i) ≤ 600 ∧ ((if i = q then cap' else D.2.1 i) = 0 ∨ 10 ≤ (if i = q then cap' else D.2.1 i))
      by_cases e : i = q
      · rw [if_pos e, e, e1]
        exact ⟨hcp, hc6, Or.inr hc10⟩
      · rw [if_neg e, e2 i hi e]
        exact hcaps i hi
    · exact htab
/-- one new object behind a list -/
theorem x_add1 {h0 h : am_H} {a b : Nat} {cc cc' : Nat → Nat} {aa aa' : Nat → Nat → Int32} {P : x_P} {D : x_D} {q n ci : Nat} {fs : List Value} (hx : XL h0 a b h cc aa P D) (hq : q < 6) (hq2 : q ≠ 2) (hn : xn cc q = n) (hn4 : n ≤ 399) (hlq : ∀ j, j < n → xlive cc D q j ∧ ∃ ci fs, xcell cc aa P D q j = .inr (ci, fs) ∧ ci < 12) (hci : ci < 12) (e1 : xn cc' q = n + 1) (e2 : ∀ i, i < 6 → i ≠ q → xn cc' i = xn cc i) (hL : ∀ D' k i, xlive cc' D' k i → k ≠ 8 → (k = q ∧ i = n) ∨ xlive cc D k i) (hcn : ∀ P' D', xcell cc' aa' P' D' q n = .inr (ci, fs)) (hC : ∀ (P' : x_P) (D' : x_D) k i, (∀ i, P' 6 i = P 6 i) → (∀ i, P' 7 i = P 7 i) → P' 9 0 = P 9 0 → D'.2.2 = D.2.2 → xlive cc D k i → k ≠ 8 → k ≠ 11 → ¬ (k = q ∧ i = n) → xcell cc' aa' P' D' k i = xcell cc aa P D k i) (htab : x_tab cc' aa' D) : am_ev 186 [.ref (4 + q), .ref h.length] (h ++ [.inr (ci, fs)]) (fun v h' => v = some (.int 1) ∧ ∃ P' D', XL h0 (a + 1 + 1) (b + fs.length + 600) h' cc' aa' P' D') := by
  have g := hx.1.nw q n (.inr (ci, fs))
  have hp : ∀ k i, ¬ (k = q ∧ i = n) → u2 P q n h.length k i = P k i := fun k i e => if_neg e
  have hpk : ∀ k i, k ≠ q → u2 P q n h.length k i = P k i := fun k i e => u2_k _ _ e
  have hc : ∀ k i, ¬ (k = q ∧ i = n) → u2 (xcell cc aa P D) q n (.inr (ci, fs)) k i = xcell cc aa P D k i := fun k i e => if_neg e
  have w := x_add (cc := cc) (cc' := cc') (aa' := aa') (D := D) (q := q) (n := n) (ci := ci) (fs := fs) g hq (fun k i h1 h2 => by rw [hpk k i (by omega)]; exact hx.2.1 k i h1 h2) hx.2.2.1 hn hn4 (fun i hi => Or.inr hi) (fun i hi => ?_) (fun i hi h8 => ⟨Or.inr ⟨hi, h8⟩, ?_⟩) (fun j hj => ⟨Or.inr (hlq j hj).1, ?_⟩) (Or.inl ⟨rfl, rfl⟩) (u2_s _ _ _ _) hci e1 e2 (fun D' k i lk k8 => hL D' k i lk k8) (fun P' D' k i hP' hD' lk k8 k11 => ?_) htab
  · rw [u2_s] at w
    exact am_wp.mp w (fun v h' ⟨e, P', D', _, hx'⟩ => ⟨e, P', D', hx'⟩)
  · rw [hc 11 i (by omega)]
    show Sum.inr (0, [Value.int (D.1 i), Value.ref (if D.2.1 i = 0 then 1 else P 8 i), Value.int (nI (xn cc i))]) = Sum.inr (0, [Value.int (D.1 i), Value.ref (if D.2.1 i = 0 then 1 else u2 P q n h.length 8 i), Value.int (nI (xn cc i))])
    rw [hpk 8 i (by omega)]
  · rw [hc 8 i (by omega)]
    show Sum.inl (3, D.2.1 i, Sum.inr (Sum.inr (Sum.inr (Sum.inr (x_els cc P i))))) = _
    rw [show x_els cc P i = x_els cc (u2 P q n h.length) i from ?_]
    funext j
    unfold x_els
    by_cases d : j < xn cc i
    · rw [if_pos d, if_pos d, hp i j (fun e => by rw [e.1, hn] at d; omega)]
    · rw [if_neg d, if_neg d]
  · rw [hc q j (by omega)]
    exact (hlq j hj).2
  · by_cases e : k = q ∧ i = n
    · rw [e.1, e.2, u2_s]
      exact hcn P' D'
    · rw [hc k i e]
      exact hC P' D' k i (fun i => by rw [hP' 6 i (by decide), hpk 6 i (by omega)]) (fun i => by rw [hP' 7 i (by decide), hpk 7 i (by omega)]) (by rw [hP' 9 0 (by decide), hpk 9 0 (by omega)]) hD' ((hL D' k i lk k8).resolve_left e) k8 k11 e
theorem c35 (h : am_H) (v0 v1 v2 : Int32) : am_ev 35 [.ref h.length, .int v0, .int v1, .int v2] (h ++ [.inr (8, [.int 0, .int 0, .int 0])]) (fun v h1 => v = none ∧ h1 = h ++ ([.inr (8, [.int v0, .int v1, .int v2])] : am_H)) := by
  show am_wp _ (_, [_, _, _, _], _) _ _
  refine w_aload_n s35_0 rfl ?_
  refine w_oini s35_1 ro35 rfl ?_
  refine w_aload_n s35_4 rfl ?_
  refine w_iload_n s35_5 rfl ?_
  refine w_putf s35_6 (by decide +kernel) (x_at_last h _) rfl rfl ?_
  rw [x_set_last]
  refine w_aload_n s35_9 rfl ?_
  refine w_iload_n s35_10 rfl ?_
  refine w_putf s35_11 (by decide +kernel) (x_at_last h _) rfl rfl ?_
  rw [x_set_last]
  refine w_aload_n s35_14 rfl ?_
  refine w_iload_n s35_15 rfl ?_
  refine w_putf s35_16 (by decide +kernel) (x_at_last h _) rfl rfl ?_
  rw [x_set_last]
  refine w_vret s35_19 rk35 ?_
  exact ⟨rfl, rfl⟩
theorem c9 (h : am_H) (v0 v1 v2 v3 : Int32) : am_ev 9 [.ref h.length, .int v0, .int v1, .int v2, .int v3] (h ++ [.inr (4, [.int 0, .int 0, .int 0, .int 0])]) (fun v h1 => v = none ∧ h1 = h ++ ([.inr (4, [.int v0, .int v1, .int v2, .int v3])] : am_H)) := by
  show am_wp _ (_, [_, _, _, _, _], _) _ _
  refine w_aload_n s9_0 rfl ?_
  refine w_oini s9_1 ro9 rfl ?_
  refine w_aload_n s9_4 rfl ?_
  refine w_iload_n s9_5 rfl ?_
  refine w_putf s9_6 (by decide +kernel) (x_at_last h _) rfl rfl ?_
  rw [x_set_last]
  refine w_aload_n s9_9 rfl ?_
  refine w_iload_n s9_10 rfl ?_
  refine w_putf s9_11 (by decide +kernel) (x_at_last h _) rfl rfl ?_
  rw [x_set_last]
  refine w_aload_n s9_14 rfl ?_
  refine w_iload_n s9_15 rfl ?_
  refine w_putf s9_16 (by decide +kernel) (x_at_last h _) rfl rfl ?_
  rw [x_set_last]
  refine w_aload_n s9_19 rfl ?_
  refine w_iload s9_20 rfl ?_
  refine w_putf s9_22 (by decide +kernel) (x_at_last h _) rfl rfl ?_
  rw [x_set_last]
  refine w_vret s9_25 rk9 ?_
  exact ⟨rfl, rfl⟩
theorem c6 (h : am_H) (v0 : Int32) : am_ev 6 [.ref h.length, .int v0] (h ++ [.inr (2, [.int 0, .int 0])]) (fun v h1 => v = none ∧ h1 = h ++ ([.inr (2, [.int v0, .int 0])] : am_H)) := by
  show am_wp _ (_, [_, _], _) _ _
  refine w_aload_n s6_0 rfl ?_
  refine w_oini s6_1 ro6 rfl ?_
  refine w_aload_n s6_4 rfl ?_
  refine w_iload_n s6_5 rfl ?_
  refine w_putf s6_6 (by decide +kernel) (x_at_last h _) rfl rfl ?_
  rw [x_set_last]
  refine w_aload_n s6_9 rfl ?_
  refine w_iconst (v := 0) s6_10 rfl ?_
  refine w_putf s6_11 (by decide +kernel) (x_at_last h _) rfl rfl ?_
  rw [x_set_last]
  refine w_vret s6_14 rk6 ?_
  exact ⟨rfl, rfl⟩
theorem c38 (h : am_H) (v0 v1 v2 v3 v4 : Int32) : am_ev 38 [.ref h.length, .int v0, .int v1, .int v2, .int v3, .int v4] (h ++ [.inr (9, [.int 0, .int 0, .int 0, .int 0, .int 0])]) (fun v h1 => v = none ∧ h1 = h ++ ([.inr (9, [.int v0, .int v1, .int v2, .int v3, .int v4])] : am_H)) := by
  show am_wp _ (_, [_, _, _, _, _, _], _) _ _
  refine w_aload_n s38_0 rfl ?_
  refine w_oini s38_1 ro38 rfl ?_
  refine w_aload_n s38_4 rfl ?_
  refine w_iload_n s38_5 rfl ?_
  refine w_putf s38_6 (by decide +kernel) (x_at_last h _) rfl rfl ?_
  rw [x_set_last]
  refine w_aload_n s38_9 rfl ?_
  refine w_iload_n s38_10 rfl ?_
  refine w_putf s38_11 (by decide +kernel) (x_at_last h _) rfl rfl ?_
  rw [x_set_last]
  refine w_aload_n s38_14 rfl ?_
  refine w_iload_n s38_15 rfl ?_
  refine w_putf s38_16 (by decide +kernel) (x_at_last h _) rfl rfl ?_
  rw [x_set_last]
  refine w_aload_n s38_19 rfl ?_
  refine w_iload s38_20 rfl ?_
  refine w_putf s38_22 (by decide +kernel) (x_at_last h _) rfl rfl ?_
  rw [x_set_last]
  refine w_aload_n s38_25 rfl ?_
  refine w_iload s38_26 rfl ?_
  refine w_putf s38_28 (by decide +kernel) (x_at_last h _) rfl rfl ?_
  rw [x_set_last]
  refine w_vret s38_31 rk38 ?_
  exact ⟨rfl, rfl⟩
theorem c8 (h : am_H) (v0 v1 v2 v3 v4 : Int32) (c : Bool) : am_ev 8 [.ref h.length, .int v0, .int v1, .int v2, .int v3, .int v4, .int (am_bi c)] (h ++ [.inr (3, [.int 0, .int 0, .int 0, .int 0, .int 0, .int 0])]) (fun v h1 => v = none ∧ h1 = h ++ ([.inr (3, [.int v0, .int v1, .int v2, .int v3, .int v4, .int (am_bi c)])] : am_H)) := by
  show am_wp _ (_, [_, _, _, _, _, _, _], _) _ _
  refine w_aload_n s8_0 rfl ?_
  refine w_oini s8_1 ro8 rfl ?_
  refine w_aload_n s8_4 rfl ?_
  refine w_iload_n s8_5 rfl ?_
  refine w_putf s8_6 (by decide +kernel) (x_at_last h _) rfl rfl ?_
  rw [x_set_last]
  refine w_aload_n s8_9 rfl ?_
  refine w_iload_n s8_10 rfl ?_
  refine w_putf s8_11 (by decide +kernel) (x_at_last h _) rfl rfl ?_
  rw [x_set_last]
  refine w_aload_n s8_14 rfl ?_
  refine w_iload_n s8_15 rfl ?_
  refine w_putf s8_16 (by decide +kernel) (x_at_last h _) rfl rfl ?_
  rw [x_set_last]
  refine w_aload_n s8_19 rfl ?_
  refine w_iload s8_20 rfl ?_
  refine w_putf s8_22 (by decide +kernel) (x_at_last h _) rfl rfl ?_
  rw [x_set_last]
  refine w_aload_n s8_25 rfl ?_
  refine w_iload s8_26 rfl ?_
  refine w_putf s8_28 (by decide +kernel) (x_at_last h _) rfl rfl ?_
  rw [x_set_last]
  refine w_aload_n s8_31 rfl ?_
  refine w_iload s8_32 rfl ?_
  refine w_putf s8_34 (by decide +kernel) (x_at_last h _) rfl (by cases c <;> rfl) ?_
  rw [x_set_last]
  refine w_vret s8_37 rk8 ?_
  exact ⟨rfl, rfl⟩
theorem x_add_sq {h0 h : am_H} {a b : Nat} {cc : Nat → Nat} {aa : Nat → Nat → Int32} {P : x_P} {D : x_D} (hx : XL h0 a b h cc aa P D) (hn : cc 3 ≤ 399) (v0 v1 v2 : Int32) : am_ev 186 [.ref 4, .ref h.length] (h ++ [.inr (8, [.int v0, .int v1, .int v2])]) (fun v h1 => v = some (.int 1) ∧ ∃ P2 D2, XL h0 (a + 1 + 1) (b + 3 + 600) h1 (uc cc 3 (cc 3 + 1)) (ua (ua (ua (aa) 4 (upd (aa 4) (cc 3) v0)) 5 (upd (aa 5) (cc 3) v1)) 6 (upd (aa 6) (cc 3) v2)) P2 D2) := by
  refine x_add1 (q := 0) (n := cc 3) hx (by decide) (by decide) rfl hn (fun j hj => ⟨hj, 8, _, rfl, by decide⟩) (by decide) rfl (fun i hi6 hi => ?_) (fun D2 k i lk k8 => ?_) (fun P2 D2 => ?_) (fun P2 D2 k i h6 h7 h9 hD lk k8 k11 hne => ?_) ?_
  · exact match i, hi6, hi with | 0, _, hi => absurd rfl hi | 1, _, _ => rfl | 2, _, _ => rfl | 3, _, _ => rfl | 4, _, _ => rfl | 5, _, _ => rfl | _ + 6, h6, _ => absurd h6 (by omega)
  · exact match k, lk, k8 with | 0, l, _ => (Nat.lt_succ_iff_lt_or_eq.mp (show i < cc 3 + 1 from l)).elim Or.inr (fun e => Or.inl ⟨rfl, e⟩) | 1, l, _ => Or.inr l | 2, l, _ => Or.inr l | 3, l, _ => Or.inr l | 4, l, _ => Or.inr l | 5, l, _ => Or.inr l | 6, l, _ => Or.inr l | 7, l, _ => Or.inr l | 8, _, e => absurd rfl e | 9, l, _ => Or.inr l | 10, l, _ => Or.inr l | 11, l, _ => Or.inr l | 12, l, _ => Or.inr l | 13, l, _ => Or.inr l | 14, l, _ => Or.inr l | 15, l, _ => Or.inr l | 16, l, _ => Or.inr l | 17, l, _ => Or.inr l | 18, l, _ => Or.inr l | 19, l, _ => Or.inr l | 20, l, _ => Or.inr l | 21, l, _ => Or.inr l | _ + 22, l, _ => Or.inr l
  · show Sum.inr (8, [Value.int (upd (aa 4) (cc 3) v0 (cc 3)), Value.int (upd (aa 5) (cc 3) v1 (cc 3)), Value.int (upd (aa 6) (cc 3) v2 (cc 3))]) = _
    simp only [pk_us]
  · exact match k, lk, hne, k8, k11 with | 0, l, hne, _, _ => by have hni : ¬ i = cc 3 := fun e => hne ⟨rfl, e⟩; show Sum.inr (8, [Value.int (upd (aa 4) (cc 3) v0 i), Value.int (upd (aa 5) (cc 3) v1 i), Value.int (upd (aa 6) (cc 3) v2 i)]) = _; simp only [x_up_n hni]; rfl | 1, _, _, _, _ => rfl | 2, _, _, _, _ => by show Sum.inr (5, [Value.int (aa 21 i), Value.int (aa 22 i), Value.int (aa 23 i), Value.int (aa 24 i), Value.int (aa 25 i), Value.int (aa 26 i), Value.ref (P2 6 i), Value.ref (P2 7 i), Value.int (aa 27 i)]) = _; rw [h6, h7]; rfl | 3, _, _, _, _ => rfl | 4, _, _, _, _ => rfl | 5, _, _, _, _ => rfl | 6, _, _, _, _ => rfl | 7, _, _, _, _ => rfl | 8, _, _, e, _ => absurd rfl e | 9, _, _, _, _ => by show Sum.inl (0, D2.2.2.2.1, Sum.inl D2.2.2.2.2) = _; rw [hD]; rfl | 10, _, _, _, _ => rfl | 11, _, _, _, e => absurd rfl e | 12, _, _, _, _ => rfl | 13, _, _, _, _ => rfl | 14, _, _, _, _ => rfl | 15, _, _, _, _ => rfl | 16, _, _, _, _ => rfl | 17, _, _, _, _ => rfl | 18, _, _, _, _ => by show Sum.inr (6, [Value.ref 23, Value.int (nI (cc 45)), Value.ref (P2 9 0), Value.int (nI D2.2.2.1)]) = _; rw [h9, hD]; rfl | 19, _, _, _, _ => rfl | 20, _, _, _, _ => rfl | 21, _, _, _, _ => rfl | n + 22, l, _, _, _ => absurd l.1 (x_not22 n)
  · exact ⟨Nat.le_succ_of_le hx.2.2.2.1, fun e => by have e2 : D.2.2.1 = cc 3 + 1 := e; have := hx.2.2.2.1; omega⟩
theorem x_add_mv {h0 h : am_H} {a b : Nat} {cc : Nat → Nat} {aa : Nat → Nat → Int32} {P : x_P} {D : x_D} (hx : XL h0 a b h cc aa P D) (hn : cc 8 ≤ 399) (v0 v1 v2 v3 : Int32) : am_ev 186 [.ref 5, .ref h.length] (h ++ [.inr (4, [.int v0, .int v1, .int v2, .int v3])]) (fun v h1 => v = some (.int 1) ∧ ∃ P2 D2, XL h0 (a + 1 + 1) (b + 4 + 600) h1 (uc cc 8 (cc 8 + 1)) (ua (ua (ua (ua (aa) 9 (upd (aa 9) (cc 8) v0)) 10 (upd (aa 10) (cc 8) v1)) 11 (upd (aa 11) (cc 8) v2)) 12 (upd (aa 12) (cc 8) v3)) P2 D2) := by
  refine x_add1 (q := 1) (n := cc 8) hx (by decide) (by decide) rfl hn (fun j hj => ⟨hj, 4, _, rfl, by decide⟩) (by decide) rfl (fun i hi6 hi => ?_) (fun D2 k i lk k8 => ?_) (fun P2 D2 => ?_) (fun P2 D2 k i h6 h7 h9 hD lk k8 k11 hne => ?_) ?_
  · exact match i, hi6, hi with | 0, _, _ => rfl | 1, _, hi => absurd rfl hi | 2, _, _ => rfl | 3, _, _ => rfl | 4, _, _ => rfl | 5, _, _ => rfl | _ + 6, h6, _ => absurd h6 (by omega)
  · exact match k, lk, k8 with | 0, l, _ => Or.inr l | 1, l, _ => (Nat.lt_succ_iff_lt_or_eq.mp (show i < cc 8 + 1 from l)).elim Or.inr (fun e => Or.inl ⟨rfl, e⟩) | 2, l, _ => Or.inr l | 3, l, _ => Or.inr l | 4, l, _ => Or.inr l | 5, l, _ => Or.inr l | 6, l, _ => Or.inr l | 7, l, _ => Or.inr l | 8, _, e => absurd rfl e | 9, l, _ => Or.inr l | 10, l, _ => Or.inr l | 11, l, _ => Or.inr l | 12, l, _ => Or.inr l | 13, l, _ => Or.inr l | 14, l, _ => Or.inr l | 15, l, _ => Or.inr l | 16, l, _ => Or.inr l | 17, l, _ => Or.inr l | 18, l, _ => Or.inr l | 19, l, _ => Or.inr l | 20, l, _ => Or.inr l | 21, l, _ => Or.inr l | _ + 22, l, _ => Or.inr l
  · show Sum.inr (4, [Value.int (upd (aa 9) (cc 8) v0 (cc 8)), Value.int (upd (aa 10) (cc 8) v1 (cc 8)), Value.int (upd (aa 11) (cc 8) v2 (cc 8)), Value.int (upd (aa 12) (cc 8) v3 (cc 8))]) = _
    simp only [pk_us]
  · exact match k, lk, hne, k8, k11 with | 0, _, _, _, _ => rfl | 1, l, hne, _, _ => by have hni : ¬ i = cc 8 := fun e => hne ⟨rfl, e⟩; show Sum.inr (4, [Value.int (upd (aa 9) (cc 8) v0 i), Value.int (upd (aa 10) (cc 8) v1 i), Value.int (upd (aa 11) (cc 8) v2 i), Value.int (upd (aa 12) (cc 8) v3 i)]) = _; simp only [x_up_n hni]; rfl | 2, _, _, _, _ => by show Sum.inr (5, [Value.int (aa 21 i), Value.int (aa 22 i), Value.int (aa 23 i), Value.int (aa 24 i), Value.int (aa 25 i), Value.int (aa 26 i), Value.ref (P2 6 i), Value.ref (P2 7 i), Value.int (aa 27 i)]) = _; rw [h6, h7]; rfl | 3, _, _, _, _ => rfl | 4, _, _, _, _ => rfl | 5, _, _, _, _ => rfl | 6, _, _, _, _ => rfl | 7, _, _, _, _ => rfl | 8, _, _, e, _ => absurd rfl e | 9, _, _, _, _ => by show Sum.inl (0, D2.2.2.2.1, Sum.inl D2.2.2.2.2) = _; rw [hD]; rfl | 10, _, _, _, _ => rfl | 11, _, _, _, e => absurd rfl e | 12, _, _, _, _ => rfl | 13, _, _, _, _ => rfl | 14, _, _, _, _ => rfl | 15, _, _, _, _ => rfl | 16, _, _, _, _ => rfl | 17, _, _, _, _ => rfl | 18, _, _, _, _ => by show Sum.inr (6, [Value.ref 23, Value.int (nI (cc 45)), Value.ref (P2 9 0), Value.int (nI D2.2.2.1)]) = _; rw [h9, hD]; rfl | 19, _, _, _, _ => rfl | 20, _, _, _, _ => rfl | 21, _, _, _, _ => rfl | n + 22, l, _, _, _ => absurd l.1 (x_not22 n)
  · exact x_tab_cg hx.2.2.2 rfl rfl rfl
theorem x_add_cr {h0 h : am_H} {a b : Nat} {cc : Nat → Nat} {aa : Nat → Nat → Int32} {P : x_P} {D : x_D} (hx : XL h0 a b h cc aa P D) (hn : cc 28 ≤ 399) (v0 : Int32) (hz : aa 30 (cc 28) = 0) : am_ev 186 [.ref 7, .ref h.length] (h ++ [.inr (2, [.int v0, .int 0])]) (fun v h1 => v = some (.int 1) ∧ ∃ P2 D2, XL h0 (a + 1 + 1) (b + 2 + 600) h1 (uc cc 28 (cc 28 + 1)) (ua (aa) 29 (upd (aa 29) (cc 28) v0)) P2 D2) := by
  refine x_add1 (q := 3) (n := cc 28) hx (by decide) (by decide) rfl hn (fun j hj => ⟨hj, 2, _, rfl, by decide⟩) (by decide) rfl (fun i hi6 hi => ?_) (fun D2 k i lk k8 => ?_) (fun P2 D2 => ?_) (fun P2 D2 k i h6 h7 h9 hD lk k8 k11 hne => ?_) ?_
  · exact match i, hi6, hi with | 0, _, _ => rfl | 1, _, _ => rfl | 2, _, _ => rfl | 3, _, hi => absurd rfl hi | 4, _, _ => rfl | 5, _, _ => rfl | _ + 6, h6, _ => absurd h6 (by omega)
  · exact match k, lk, k8 with | 0, l, _ => Or.inr l | 1, l, _ => Or.inr l | 2, l, _ => Or.inr l | 3, l, _ => (Nat.lt_succ_iff_lt_or_eq.mp (show i < cc 28 + 1 from l)).elim Or.inr (fun e => Or.inl ⟨rfl, e⟩) | 4, l, _ => Or.inr l | 5, l, _ => Or.inr l | 6, l, _ => Or.inr l | 7, l, _ => Or.inr l | 8, _, e => absurd rfl e | 9, l, _ => Or.inr l | 10, l, _ => Or.inr l | 11, l, _ => Or.inr l | 12, l, _ => Or.inr l | 13, l, _ => Or.inr l | 14, l, _ => Or.inr l | 15, l, _ => Or.inr l | 16, l, _ => Or.inr l | 17, l, _ => Or.inr l | 18, l, _ => Or.inr l | 19, l, _ => Or.inr l | 20, l, _ => Or.inr l | 21, l, _ => Or.inr l | _ + 22, l, _ => Or.inr l
  · show Sum.inr (2, [Value.int (upd (aa 29) (cc 28) v0 (cc 28)), Value.int (aa 30 (cc 28))]) = _
    simp only [pk_us, hz]
  · exact match k, lk, hne, k8, k11 with | 0, _, _, _, _ => rfl | 1, _, _, _, _ => rfl | 2, _, _, _, _ => by show Sum.inr (5, [Value.int (aa 21 i), Value.int (aa 22 i), Value.int (aa 23 i), Value.int (aa 24 i), Value.int (aa 25 i), Value.int (aa 26 i), Value.ref (P2 6 i), Value.ref (P2 7 i), Value.int (aa 27 i)]) = _; rw [h6, h7]; rfl | 3, l, hne, _, _ => by have hni : ¬ i = cc 28 := fun e => hne ⟨rfl, e⟩; show Sum.inr (2, [Value.int (upd (aa 29) (cc 28) v0 i), Value.int (aa 30 i)]) = _; simp only [x_up_n hni]; rfl | 4, _, _, _, _ => rfl | 5, _, _, _, _ => rfl | 6, _, _, _, _ => rfl | 7, _, _, _, _ => rfl | 8, _, _, e, _ => absurd rfl e | 9, _, _, _, _ => by show Sum.inl (0, D2.2.2.2.1, Sum.inl D2.2.2.2.2) = _; rw [hD]; rfl | 10, _, _, _, _ => rfl | 11, _, _, _, e => absurd rfl e | 12, _, _, _, _ => rfl | 13, _, _, _, _ => rfl | 14, _, _, _, _ => rfl | 15, _, _, _, _ => rfl | 16, _, _, _, _ => rfl | 17, _, _, _, _ => rfl | 18, _, _, _, _ => by show Sum.inr (6, [Value.ref 23, Value.int (nI (cc 45)), Value.ref (P2 9 0), Value.int (nI D2.2.2.1)]) = _; rw [h9, hD]; rfl | 19, _, _, _, _ => rfl | 20, _, _, _, _ => rfl | 21, _, _, _, _ => rfl | n + 22, l, _, _, _ => absurd l.1 (x_not22 n)
  · exact x_tab_cg hx.2.2.2 rfl rfl rfl
theorem x_add_sy {h0 h : am_H} {a b : Nat} {cc : Nat → Nat} {aa : Nat → Nat → Int32} {P : x_P} {D : x_D} (hx : XL h0 a b h cc aa P D) (hn : cc 38 ≤ 399) (v0 v1 v2 v3 v4 : Int32) : am_ev 186 [.ref 9, .ref h.length] (h ++ [.inr (9, [.int v0, .int v1, .int v2, .int v3, .int v4])]) (fun v h1 => v = some (.int 1) ∧ ∃ P2 D2, XL h0 (a + 1 + 1) (b + 5 + 600) h1 (uc cc 38 (cc 38 + 1)) (ua (ua (ua (ua (ua (aa) 39 (upd (aa 39) (cc 38) v0)) 40 (upd (aa 40) (cc 38) v1)) 41 (upd (aa 41) (cc 38) v2)) 42 (upd (aa 42) (cc 38) v3)) 43 (upd (aa 43) (cc 38) v4)) P2 D2) := by
  refine x_add1 (q := 5) (n := cc 38) hx (by decide) (by decide) rfl hn (fun j hj => ⟨hj, 9, _, rfl, by decide⟩) (by decide) rfl (fun i hi6 hi => ?_) (fun D2 k i lk k8 => ?_) (fun P2 D2 => ?_) (fun P2 D2 k i h6 h7 h9 hD lk k8 k11 hne => ?_) ?_
  · exact match i, hi6, hi with | 0, _, _ => rfl | 1, _, _ => rfl | 2, _, _ => rfl | 3, _, _ => rfl | 4, _, _ => rfl | 5, _, hi => absurd rfl hi | _ + 6, h6, _ => absurd h6 (by omega)
  · exact match k, lk, k8 with | 0, l, _ => Or.inr l | 1, l, _ => Or.inr l | 2, l, _ => Or.inr l | 3, l, _ => Or.inr l | 4, l, _ => Or.inr l | 5, l, _ => (Nat.lt_succ_iff_lt_or_eq.mp (show i < cc 38 + 1 from l)).elim Or.inr (fun e => Or.inl ⟨rfl, e⟩) | 6, l, _ => Or.inr l | 7, l, _ => Or.inr l | 8, _, e => absurd rfl e | 9, l, _ => Or.inr l | 10, l, _ => Or.inr l | 11, l, _ => Or.inr l | 12, l, _ => Or.inr l | 13, l, _ => Or.inr l | 14, l, _ => Or.inr l | 15, l, _ => Or.inr l | 16, l, _ => Or.inr l | 17, l, _ => Or.inr l | 18, l, _ => Or.inr l | 19, l, _ => Or.inr l | 20, l, _ => Or.inr l | 21, l, _ => Or.inr l | _ + 22, l, _ => Or.inr l
  · show Sum.inr (9, [Value.int (upd (aa 39) (cc 38) v0 (cc 38)), Value.int (upd (aa 40) (cc 38) v1 (cc 38)), Value.int (upd (aa 41) (cc 38) v2 (cc 38)), Value.int (upd (aa 42) (cc 38) v3 (cc 38)), Value.int (upd (aa 43) (cc 38) v4 (cc 38))]) = _
    simp only [pk_us]
  · exact match k, lk, hne, k8, k11 with | 0, _, _, _, _ => rfl | 1, _, _, _, _ => rfl | 2, _, _, _, _ => by show Sum.inr (5, [Value.int (aa 21 i), Value.int (aa 22 i), Value.int (aa 23 i), Value.int (aa 24 i), Value.int (aa 25 i), Value.int (aa 26 i), Value.ref (P2 6 i), Value.ref (P2 7 i), Value.int (aa 27 i)]) = _; rw [h6, h7]; rfl | 3, _, _, _, _ => rfl | 4, _, _, _, _ => rfl | 5, l, hne, _, _ => by have hni : ¬ i = cc 38 := fun e => hne ⟨rfl, e⟩; show Sum.inr (9, [Value.int (upd (aa 39) (cc 38) v0 i), Value.int (upd (aa 40) (cc 38) v1 i), Value.int (upd (aa 41) (cc 38) v2 i), Value.int (upd (aa 42) (cc 38) v3 i), Value.int (upd (aa 43) (cc 38) v4 i)]) = _; simp only [x_up_n hni]; rfl | 6, _, _, _, _ => rfl | 7, _, _, _, _ => rfl | 8, _, _, e, _ => absurd rfl e | 9, _, _, _, _ => by show Sum.inl (0, D2.2.2.2.1, Sum.inl D2.2.2.2.2) = _; rw [hD]; rfl | 10, _, _, _, _ => rfl | 11, _, _, _, e => absurd rfl e | 12, _, _, _, _ => rfl | 13, _, _, _, _ => rfl | 14, _, _, _, _ => rfl | 15, _, _, _, _ => rfl | 16, _, _, _, _ => rfl | 17, _, _, _, _ => rfl | 18, _, _, _, _ => by show Sum.inr (6, [Value.ref 23, Value.int (nI (cc 45)), Value.ref (P2 9 0), Value.int (nI D2.2.2.1)]) = _; rw [h9, hD]; rfl | 19, _, _, _, _ => rfl | 20, _, _, _, _ => rfl | 21, _, _, _, _ => rfl | n + 22, l, _, _, _ => absurd l.1 (x_not22 n)
  · exact x_tab_cg hx.2.2.2 rfl rfl rfl
theorem c40 {h : am_H} {cc : Nat → Nat} {aa : Nat → Nat → Int32} {P : x_P} {D : x_D} (hx : XL h 0 0 h cc aa P D) (iv : IV cc aa) (x y w : Int32) : am_ev 40 [.ref 3, .int x, .int y, .int w] h (xQ h (S_square cc aa x y w)) := by
  have n0 := iv.n0
  have n2 := iv.n2
  have n3 := iv.n3
  have n7 := iv.n7
  have n8 := iv.n8
  have n16 := iv.n16
  have n20 := iv.n20
  have n28 := iv.n28
  have n31 := iv.n31
  have n38 := iv.n38
  have n45 := iv.n45
  show am_wp _ (_, [_, _, _, _], _) _ _
  refine w_iload_n s40_0 rfl ?_
  refine w_iconst (v := 0) s40_1 rfl ?_
  refine w_bipush (v := 60) s40_2 rfl ?_
  refine w_callS3r s40_4 mc40_77 rfl rfl (c77 _ _ _ _) ?_
  refine w_ifeqB s40_7 rfl  (fun c7 => ?_) (fun c7 => ?_)
  · skip
    refine w_iconst (v := (-1)) s40_30 rfl ?_
    refine w_iret s40_31 rk40 ?_
    exact xq_end (by decide) (by decide) (by simp [S_square, tn, *] <;> first | rfl | exact ⟨rfl, rfl⟩ | exact ⟨rfl, rfl, rfl⟩) hx
  · skip
    refine w_iload_n s40_10 rfl ?_
    refine w_iconst (v := 0) s40_11 rfl ?_
    refine w_bipush (v := 60) s40_12 rfl ?_
    refine w_callS3r s40_14 mc40_77 rfl rfl (c77 _ _ _ _) ?_
    refine w_ifeqB s40_17 rfl  (fun c17 => ?_) (fun c17 => ?_)
    · skip
      refine w_iconst (v := (-1)) s40_30 rfl ?_
      refine w_iret s40_31 rk40 ?_
      exact xq_end (by decide) (by decide) (by simp [S_square, tn, *] <;> first | rfl | exact ⟨rfl, rfl⟩ | exact ⟨rfl, rfl, rfl⟩) hx
    · skip
      refine w_iload_n s40_20 rfl ?_
      refine w_iconst (v := 0) s40_21 rfl ?_
      refine w_bipush (v := 127) s40_22 rfl ?_
      refine w_callS3r s40_24 mc40_77 rfl rfl (c77 _ _ _ _) ?_
      refine w_ifneB s40_27 rfl  (fun c27 => ?_) (fun c27 => ?_)
      · skip
        refine w_aload_n s40_32 rfl ?_
        refine w_getf s40_33 hx.o rfl ?_
        refine w_callV0r s40_36 (hx.l 0 (by decide)) ow181 mc40_181 rfl rfl (hx.size 0 (by decide)) ?_
        refine w_bipush (v := 10) s40_39 rfl ?_
        refine w_icmpltN (x := cc 3) (y := 10) s40_41 rfl (by omega) (by omega)  (fun c41 => ?_) (fun c41 => ?_)
        · skip
          have e10 : ¬ cc 3 = 10 := by omega
          refine w_aload_n s40_47 rfl ?_
          refine w_getf s40_48 hx.o rfl ?_
          refine w_new s40_51 rfl ?_
          refine w_dup_r s40_54 ?_
          refine w_iload_n s40_55 rfl ?_
          refine w_iload_n s40_56 rfl ?_
          refine w_iload_n s40_57 rfl ?_
          refine w_callI3 s40_58 mc40_35 rfl rfl (c35 h x y w) ?_
          rintro v h1 ⟨rfl, rfl⟩
          show am_wp _ (_, _, _) _ _
          refine w_callV1 s40_61 ((List.getElem?_append_left (x_lt (hx.l 0 (by decide)))).trans (hx.l 0 (by decide))) ow186 mc40_186 rfl rfl (x_add_sq hx (by omega) x y w) ?_
          rintro v h ⟨rfl, P, D, hx⟩
          show am_wp _ (_, _, Value.int 1 :: _) _ _
          refine w_pop_i s40_64 ?_
          refine w_aload_n s40_65 rfl ?_
          refine w_getf s40_66 hx.o rfl ?_
          refine w_callV0r s40_69 (hx.l 0 (by decide)) ow181 mc40_181 rfl rfl (hx.size 0 (by decide)) ?_
          refine w_iconst (v := 1) s40_72 rfl ?_
          refine w_isub s40_73 (nI_pred (cc 3)) ?_
          refine w_iret s40_74 rk40 ?_
          exact xq_end (by decide) (by decide) (by simp [S_square, tn, *] <;> first | rfl | exact ⟨rfl, rfl⟩ | exact ⟨rfl, rfl, rfl⟩) hx
        · skip
          have e10 : cc 3 = 10 := by omega
          refine w_bipush (v := (-2)) s40_44 rfl ?_
          refine w_iret s40_46 rk40 ?_
          exact xq_end (by decide) (by decide) (by simp [S_square, tn, *] <;> first | rfl | exact ⟨rfl, rfl⟩ | exact ⟨rfl, rfl, rfl⟩) hx
      · skip
        refine w_iconst (v := (-1)) s40_30 rfl ?_
        refine w_iret s40_31 rk40 ?_
        exact xq_end (by decide) (by decide) (by simp [S_square, tn, *] <;> first | rfl | exact ⟨rfl, rfl⟩ | exact ⟨rfl, rfl, rfl⟩) hx
theorem c44 {h : am_H} {cc : Nat → Nat} {aa : Nat → Nat → Int32} {P : x_P} {D : x_D} (hx : XL h 0 0 h cc aa P D) (iv : IV cc aa) (s d e k : Int32) : am_ev 44 [.ref 3, .int s, .int d, .int e, .int k] h (xQ h (S_move cc aa s d e k)) := by
  have n0 := iv.n0
  have n2 := iv.n2
  have n3 := iv.n3
  have n7 := iv.n7
  have n8 := iv.n8
  have n16 := iv.n16
  have n20 := iv.n20
  have n28 := iv.n28
  have n31 := iv.n31
  have n38 := iv.n38
  have n45 := iv.n45
  show am_wp _ (_, [_, _, _, _, _], _) _ _
  refine w_aload_n s44_0 rfl ?_
  refine w_iload_n s44_1 rfl ?_
  refine w_callV1r s44_2 hx.o ow83 mc44_83 rfl rfl (c83 hx iv _) ?_
  refine w_ifeqB s44_5 rfl  (fun c5 => ?_) (fun c5 => ?_)
  · skip
    refine w_iconst (v := (-1)) s44_35 rfl ?_
    refine w_iret s44_36 rk44 ?_
    exact xq_end (by decide) (by decide) (by simp [S_move, tn, *] <;> first | rfl | exact ⟨rfl, rfl⟩ | exact ⟨rfl, rfl, rfl⟩) hx
  · skip
    refine w_iload_n s44_8 rfl ?_
    refine w_callS1r s44_9 mc44_78 rfl rfl (c78 _ _) ?_
    refine w_ifeqB s44_12 rfl  (fun c12 => ?_) (fun c12 => ?_)
    · skip
      refine w_iconst (v := (-1)) s44_35 rfl ?_
      refine w_iret s44_36 rk44 ?_
      exact xq_end (by decide) (by decide) (by simp [S_move, tn, *] <;> first | rfl | exact ⟨rfl, rfl⟩ | exact ⟨rfl, rfl, rfl⟩) hx
    · skip
      refine w_iload_n s44_15 rfl ?_
      refine w_callS1r s44_16 mc44_78 rfl rfl (c78 _ _) ?_
      refine w_ifeqB s44_19 rfl  (fun c19 => ?_) (fun c19 => ?_)
      · skip
        refine w_iconst (v := (-1)) s44_35 rfl ?_
        refine w_iret s44_36 rk44 ?_
        exact xq_end (by decide) (by decide) (by simp [S_move, tn, *] <;> first | rfl | exact ⟨rfl, rfl⟩ | exact ⟨rfl, rfl, rfl⟩) hx
      · skip
        refine w_iload s44_22 rfl ?_
        refine w_callS1r s44_24 mc44_78 rfl rfl (c78 _ _) ?_
        refine w_ifeqB s44_27 rfl  (fun c27 => ?_) (fun c27 => ?_)
        · skip
          refine w_iconst (v := (-1)) s44_35 rfl ?_
          refine w_iret s44_36 rk44 ?_
          exact xq_end (by decide) (by decide) (by simp [S_move, tn, *] <;> first | rfl | exact ⟨rfl, rfl⟩ | exact ⟨rfl, rfl, rfl⟩) hx
        · skip
          refine w_iload_n s44_30 rfl ?_
          refine w_iload_n s44_31 rfl ?_
          refine w_icmpne s44_32 rfl  (fun c32 => ?_) (fun c32 => ?_)
          · skip
            refine w_aload_n s44_37 rfl ?_
            refine w_getf s44_38 hx.o rfl ?_
            refine w_callV0r s44_41 (hx.l 1 (by decide)) ow181 mc44_181 rfl rfl (hx.size 1 (by decide)) ?_
            refine w_bipush (v := 40) s44_44 rfl ?_
            refine w_icmpltN (x := cc 8) (y := 40) s44_46 rfl (by omega) (by omega)  (fun c46 => ?_) (fun c46 => ?_)
            · skip
              have e10 : ¬ cc 8 = 40 := by omega
              refine w_iload s44_52 rfl ?_
              refine w_aload_n s44_54 rfl ?_
              refine w_getf s44_55 hx.o rfl ?_
              refine w_icmpge s44_58 rfl  (fun c58 => ?_) (fun c58 => ?_)
              · skip
                refine w_aload_n s44_64 rfl ?_
                refine w_getf s44_65 hx.o rfl ?_
                refine w_new s44_68 rfl ?_
                refine w_dup_r s44_71 ?_
                refine w_iload_n s44_72 rfl ?_
                refine w_iload_n s44_73 rfl ?_
                refine w_iload_n s44_74 rfl ?_
                refine w_iload s44_75 rfl ?_
                refine w_callI4 s44_77 mc44_9 rfl rfl (c9 h s d e k) ?_
                rintro v h1 ⟨rfl, rfl⟩
                show am_wp _ (_, _, _) _ _
                refine w_callV1 s44_80 ((List.getElem?_append_left (x_lt (hx.l 1 (by decide)))).trans (hx.l 1 (by decide))) ow186 mc44_186 rfl rfl (x_add_mv hx (by omega) s d e k) ?_
                rintro v h ⟨rfl, P, D, hx⟩
                show am_wp _ (_, _, Value.int 1 :: _) _ _
                refine w_pop_i s44_83 ?_
                refine w_aload_n s44_84 rfl ?_
                refine w_getf s44_85 hx.o rfl ?_
                refine w_callV0r s44_88 (hx.l 1 (by decide)) ow181 mc44_181 rfl rfl (hx.size 1 (by decide)) ?_
                refine w_iret s44_91 rk44 ?_
                exact xq_end (by decide) (by decide) (by simp [S_move, tn, *] <;> first | rfl | exact ⟨rfl, rfl⟩ | exact ⟨rfl, rfl, rfl⟩) hx
              · skip
                refine w_bipush (v := (-4)) s44_61 rfl ?_
                refine w_iret s44_63 rk44 ?_
                exact xq_end (by decide) (by decide) (by simp [S_move, tn, *] <;> first | rfl | exact ⟨rfl, rfl⟩ | exact ⟨rfl, rfl, rfl⟩) hx
            · skip
              have e10 : cc 8 = 40 := by omega
              refine w_bipush (v := (-2)) s44_49 rfl ?_
              refine w_iret s44_51 rk44 ?_
              exact xq_end (by decide) (by decide) (by simp [S_move, tn, *] <;> first | rfl | exact ⟨rfl, rfl⟩ | exact ⟨rfl, rfl, rfl⟩) hx
          · skip
            refine w_iconst (v := (-1)) s44_35 rfl ?_
            refine w_iret s44_36 rk44 ?_
            exact xq_end (by decide) (by decide) (by simp [S_move, tn, *] <;> first | rfl | exact ⟨rfl, rfl⟩ | exact ⟨rfl, rfl, rfl⟩) hx
theorem c60 {h : am_H} {cc : Nat → Nat} {aa : Nat → Nat → Int32} {P : x_P} {D : x_D} (hx : XL h 0 0 h cc aa P D) (iv : IV cc aa) (q : Int32) : am_ev 60 [.ref 3, .int q] h (xQ h (S_crier cc aa q)) := by
  have n0 := iv.n0
  have n2 := iv.n2
  have n3 := iv.n3
  have n7 := iv.n7
  have n8 := iv.n8
  have n16 := iv.n16
  have n20 := iv.n20
  have n28 := iv.n28
  have n31 := iv.n31
  have n38 := iv.n38
  have n45 := iv.n45
  show am_wp _ (_, [_, _], _) _ _
  refine w_aload_n s60_0 rfl ?_
  refine w_iload_n s60_1 rfl ?_
  refine w_callV1r s60_2 hx.o ow83 mc60_83 rfl rfl (c83 hx iv _) ?_
  refine w_ifneB s60_5 rfl  (fun c5 => ?_) (fun c5 => ?_)
  · skip
    refine w_aload_n s60_10 rfl ?_
    refine w_getf s60_11 hx.o rfl ?_
    refine w_callV0r s60_14 (hx.l 3 (by decide)) ow181 mc60_181 rfl rfl (hx.size 3 (by decide)) ?_
    refine w_bipush (v := 6) s60_17 rfl ?_
    refine w_icmpltN (x := cc 28) (y := 6) s60_19 rfl (by omega) (by omega)  (fun c19 => ?_) (fun c19 => ?_)
    · skip
      have e10 : ¬ cc 28 = 6 := by omega
      have hz30 := iv.fn (cc 28) (Nat.le_refl _) (by omega)
      refine w_aload_n s60_25 rfl ?_
      refine w_getf s60_26 hx.o rfl ?_
      refine w_new s60_29 rfl ?_
      refine w_dup_r s60_32 ?_
      refine w_iload_n s60_33 rfl ?_
      refine w_callI1 s60_34 mc60_6 rfl rfl (c6 h q) ?_
      rintro v h1 ⟨rfl, rfl⟩
      show am_wp _ (_, _, _) _ _
      refine w_callV1 s60_37 ((List.getElem?_append_left (x_lt (hx.l 3 (by decide)))).trans (hx.l 3 (by decide))) ow186 mc60_186 rfl rfl (x_add_cr hx (by omega) q hz30) ?_
      rintro v h ⟨rfl, P, D, hx⟩
      show am_wp _ (_, _, Value.int 1 :: _) _ _
      refine w_pop_i s60_40 ?_
      refine w_aload_n s60_41 rfl ?_
      refine w_getf s60_42 hx.o rfl ?_
      refine w_callV0r s60_45 (hx.l 3 (by decide)) ow181 mc60_181 rfl rfl (hx.size 3 (by decide)) ?_
      refine w_iconst (v := 1) s60_48 rfl ?_
      refine w_isub s60_49 (nI_pred (cc 28)) ?_
      refine w_iret s60_50 rk60 ?_
      exact xq_end (by decide) (by decide) (by simp [S_crier, tn, *] <;> first | rfl | exact ⟨rfl, rfl⟩ | exact ⟨rfl, rfl, rfl⟩) hx
    · skip
      have e10 : cc 28 = 6 := by omega
      refine w_bipush (v := (-2)) s60_22 rfl ?_
      refine w_iret s60_24 rk60 ?_
      exact xq_end (by decide) (by decide) (by simp [S_crier, tn, *] <;> first | rfl | exact ⟨rfl, rfl⟩ | exact ⟨rfl, rfl, rfl⟩) hx
  · skip
    refine w_iconst (v := (-1)) s60_8 rfl ?_
    refine w_iret s60_9 rk60 ?_
    exact xq_end (by decide) (by decide) (by simp [S_crier, tn, *] <;> first | rfl | exact ⟨rfl, rfl⟩ | exact ⟨rfl, rfl, rfl⟩) hx
theorem x_pres {f t : Int32} (h1 : x_in f 0 1439 = true) : x_in t f 1439 = (x_in t 0 1439 && decide (f ≤ t)) := by
  unfold x_in at h1 ⊢
  rw [Bool.and_eq_true] at h1
  have hf := of_decide_eq_true h1.1
  by_cases c : f ≤ t
  · rw [decide_eq_true c, decide_eq_true (Int32.le_trans hf c), Bool.true_and, Bool.and_true]
  · rw [decide_eq_false c, Bool.false_and, Bool.and_false]
theorem c67 {h : am_H} {cc : Nat → Nat} {aa : Nat → Nat → Int32} {P : x_P} {D : x_D} (hx : XL h 0 0 h cc aa P D) (iv : IV cc aa) (p q f t : Int32) : am_ev 67 [.ref 3, .int p, .int q, .int f, .int t] h (xQ h (S_present cc aa p q f t)) := by
  have n0 := iv.n0
  have n2 := iv.n2
  have n3 := iv.n3
  have n7 := iv.n7
  have n8 := iv.n8
  have n16 := iv.n16
  have n20 := iv.n20
  have n28 := iv.n28
  have n31 := iv.n31
  have n38 := iv.n38
  have n45 := iv.n45
  show am_wp _ (_, [_, _, _, _, _], _) _ _
  refine w_iload_n s67_0 rfl ?_
  refine w_callS1r s67_1 mc67_82 rfl rfl (c82 _ _) ?_
  refine w_ifeqB s67_4 rfl  (fun c4 => ?_) (fun c4 => ?_)
  · skip
    refine w_iconst (v := (-1)) s67_36 rfl ?_
    refine w_iret s67_37 rk67 ?_
    exact xq_end (by decide) (by decide) (by simp [S_present, x_pres, tn, *] <;> first | rfl | exact ⟨rfl, rfl⟩ | exact ⟨rfl, rfl, rfl⟩) hx
  · skip
    refine w_aload_n s67_7 rfl ?_
    refine w_iload_n s67_8 rfl ?_
    refine w_callV1r s67_9 hx.o ow83 mc67_83 rfl rfl (c83 hx iv _) ?_
    refine w_ifeqB s67_12 rfl  (fun c12 => ?_) (fun c12 => ?_)
    · skip
      refine w_iconst (v := (-1)) s67_36 rfl ?_
      refine w_iret s67_37 rk67 ?_
      exact xq_end (by decide) (by decide) (by simp [S_present, x_pres, tn, *] <;> first | rfl | exact ⟨rfl, rfl⟩ | exact ⟨rfl, rfl, rfl⟩) hx
    · skip
      refine w_iload_n s67_15 rfl ?_
      refine w_callS1r s67_16 mc67_79 rfl rfl (c79 _ _) ?_
      refine w_ifeqB s67_19 rfl  (fun c19 => ?_) (fun c19 => ?_)
      · skip
        refine w_iconst (v := (-1)) s67_36 rfl ?_
        refine w_iret s67_37 rk67 ?_
        exact xq_end (by decide) (by decide) (by simp [S_present, x_pres, tn, *] <;> first | rfl | exact ⟨rfl, rfl⟩ | exact ⟨rfl, rfl, rfl⟩) hx
      · skip
        refine w_iload s67_22 rfl ?_
        refine w_callS1r s67_24 mc67_79 rfl rfl (c79 _ _) ?_
        refine w_ifeqB s67_27 rfl  (fun c27 => ?_) (fun c27 => ?_)
        · skip
          refine w_iconst (v := (-1)) s67_36 rfl ?_
          refine w_iret s67_37 rk67 ?_
          exact xq_end (by decide) (by decide) (by simp [S_present, x_pres, tn, *] <;> first | rfl | exact ⟨rfl, rfl⟩ | exact ⟨rfl, rfl, rfl⟩) hx
        · skip
          refine w_iload_n s67_30 rfl ?_
          refine w_iload s67_31 rfl ?_
          refine w_icmple s67_33 rfl  (fun c33 => ?_) (fun c33 => ?_)
          · skip
            refine w_aload_n s67_38 rfl ?_
            refine w_getf s67_39 hx.o rfl ?_
            refine w_callV0r s67_42 (hx.l 5 (by decide)) ow181 mc67_181 rfl rfl (hx.size 5 (by decide)) ?_
            refine w_bipush (v := 60) s67_45 rfl ?_
            refine w_icmpltN (x := cc 38) (y := 60) s67_47 rfl (by omega) (by omega)  (fun c47 => ?_) (fun c47 => ?_)
            · skip
              have e10 : ¬ cc 38 = 60 := by omega
              refine w_aload_n s67_53 rfl ?_
              refine w_getf s67_54 hx.o rfl ?_
              refine w_new s67_57 rfl ?_
              refine w_dup_r s67_60 ?_
              refine w_iload_n s67_61 rfl ?_
              refine w_iload_n s67_62 rfl ?_
              refine w_aload_n s67_63 rfl ?_
              refine w_getf s67_64 ((List.getElem?_append_left (x_lt (hx.o))).trans (hx.o)) rfl ?_
              refine w_iload_n s67_67 rfl ?_
              refine w_iload s67_68 rfl ?_
              refine w_callI5 s67_70 mc67_38 rfl rfl (c38 h p q (nI (cc 2)) f t) ?_
              rintro v h1 ⟨rfl, rfl⟩
              show am_wp _ (_, _, _) _ _
              refine w_callV1 s67_73 ((List.getElem?_append_left (x_lt (hx.l 5 (by decide)))).trans (hx.l 5 (by decide))) ow186 mc67_186 rfl rfl (x_add_sy hx (by omega) p q (nI (cc 2)) f t) ?_
              rintro v h ⟨rfl, P, D, hx⟩
              show am_wp _ (_, _, Value.int 1 :: _) _ _
              refine w_pop_i s67_76 ?_
              refine w_aload_n s67_77 rfl ?_
              refine w_getf s67_78 hx.o rfl ?_
              refine w_callV0r s67_81 (hx.l 5 (by decide)) ow181 mc67_181 rfl rfl (hx.size 5 (by decide)) ?_
              refine w_iret s67_84 rk67 ?_
              exact xq_end (by decide) (by decide) (by simp [S_present, x_pres, tn, *] <;> first | rfl | exact ⟨rfl, rfl⟩ | exact ⟨rfl, rfl, rfl⟩) hx
            · skip
              have e10 : cc 38 = 60 := by omega
              refine w_bipush (v := (-2)) s67_50 rfl ?_
              refine w_iret s67_52 rk67 ?_
              exact xq_end (by decide) (by decide) (by simp [S_present, x_pres, tn, *] <;> first | rfl | exact ⟨rfl, rfl⟩ | exact ⟨rfl, rfl, rfl⟩) hx
          · skip
            refine w_iconst (v := (-1)) s67_36 rfl ?_
            refine w_iret s67_37 rk67 ?_
            exact xq_end (by decide) (by decide) (by simp [S_present, x_pres, tn, *] <;> first | rfl | exact ⟨rfl, rfl⟩ | exact ⟨rfl, rfl, rfl⟩) hx
