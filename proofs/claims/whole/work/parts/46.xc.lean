/-! the class's round -/
def XM (h0 : am_H) (a b : Nat) (h : am_H) (cc : Nat → Nat) (aa : Nat → Nat → Int32) (P : x_P) (D : x_D) : Prop := XG h0 a b h (xlive cc D) (xcell cc aa P D) P ∧ (∀ k i, 10 ≤ k → k ≤ 21 → P k i = x_pin k i) ∧ (∀ q, q < 6 → xn cc q ≤ D.2.1 q ∧ D.2.1 q ≤ 600 ∧ (D.2.1 q = 0 ∨ 10 ≤ D.2.1 q))
section AMM
variable {h0 h : am_H} {a b : Nat} {cc : Nat → Nat} {aa : Nat → Nat → Int32} {P : x_P} {D : x_D}
theorem XL.xm (hx : XL h0 a b h cc aa P D) : XM h0 a b h cc aa P D := ⟨hx.1, hx.2.1, hx.2.2.1⟩
theorem XM.xl (hx : XM h0 a b h cc aa P D) (ht : x_tab cc aa D) : XL h0 a b h cc aa P D := ⟨hx.1, hx.2.1, hx.2.2, ht⟩
theorem XM.l (hx : XM h0 a b h cc aa P D) (q : Nat) (hq : q < 6) : h[4 + q]? = some (.inr (0, [.int (D.1 q), .ref (xb P D q), .int (nI (xn cc q))])) := by
  have := hx.1.at (k := 11) (i := q) hq
  rwa [hx.2.1 11 q (by decide) (by decide)] at this
theorem XM.rd (hx : XM h0 a b h cc aa P D) : h[22]? = some (.inr (6, [.ref 23, .int (nI (cc 45)), .ref (P 9 0), .int (nI D.2.2.1)])) := by
  have := hx.1.at (k := 18) (i := 0) ⟨by decide, rfl⟩
  rwa [hx.2.1 18 0 (by decide) (by decide)] at this
theorem XM.ls (hx : XM h0 a b h cc aa P D) : h[P 9 0]? = some (.inl (0, D.2.2.2.1, .inl D.2.2.2.2)) := hx.1.1 9 0 ⟨by decide, rfl⟩
theorem XM.sq (hx : XM h0 a b h cc aa P D) (i : Nat) (hi : i < cc 3) : h[P 0 i]? = some (.inr (8, [.int (aa 4 i), .int (aa 5 i), .int (aa 6 i)])) := hx.1.1 0 i hi
theorem XM.get (hx : XM h0 a b h cc aa P D) (q : Nat) (hq : q < 6) (i : Nat) (hi : i < xn cc q) : am_rd 184 [.ref (4 + q), .int (nI i)] h (.ref (P q i)) := by
  have hc := hx.2.2 q hq
  have hb : h[xb P D q]? = some (.inl (3, D.2.1 q, .inr (.inr (.inr (.inr (x_els cc P q)))))) := by
    unfold xb
    rw [if_neg (by omega)]
    exact hx.1.1 8 q ⟨hq, by omega⟩
  exact c184 (hx.l q hq) hb hi hc.1 (by omega) (if_pos hi)
theorem XM.size (hx : XM h0 a b h cc aa P D) (q : Nat) (hq : q < 6) : am_rd 181 [.ref (4 + q)] h (.int (nI (xn cc q))) := c181 (hx.l q hq)
end AMM
theorem x_tbd : ∀ s, s < 1024 → ∀ t, t < 10 → s.testBit t = true → (s - 2 ^ t).testBit t = false := by decide +kernel
theorem x_pop0 : ∀ s, s < 1024 → x_pop s 10 = 0 → s = 0 := by decide +kernel
theorem x_popb : ∀ s, s < 1024 → x_bits (nI s) = nI (x_pop s 10) := by decide +kernel
theorem c36m {h0 h : am_H} {a b : Nat} {cc : Nat → Nat} {aa : Nat → Nat → Int32} {P : x_P} {D : x_D} (hx : XM h0 a b h cc aa P D) (n3 : cc 3 ≤ 10) (hsq : ∀ i, i < cc 3 → (∃ x, x ≤ 60 ∧ aa 4 i = nI x) ∧ (∃ y, y ≤ 60 ∧ aa 5 i = nI y)) (hs : x_short aa (cc 3)) (i j : Nat) (hi : i < cc 3) (hj : j < cc 3) : am_rd 36 [.ref (P 0 i), .ref (P 0 j)] h (.int (nI (x_W aa i j))) := by
  obtain ⟨⟨x1, h1, e1⟩, ⟨y1, h2, e2⟩⟩ := hsq i hi
  obtain ⟨⟨x2, h3, e3⟩, ⟨y2, h4, e4⟩⟩ := hsq j hj
  show am_wp _ (_, [_, _], _) _ _
  refine w_aload_n s36_0 rfl ?_
  refine w_getf s36_1 (hx.sq (i) (by omega)) rfl ?_
  refine w_aload_n s36_4 rfl ?_
  refine w_getf s36_5 (hx.sq (j) (by omega)) rfl ?_
  refine w_isub s36_8 rfl ?_
  refine w_abs (v := x_ad (aa 4 i) (aa 4 j)) s36_9 ro36 rfl (by rw [e1, e3]; exact x_abs (by omega) (by omega)) ?_
  refine w_aload_n s36_12 rfl ?_
  refine w_getf s36_13 (hx.sq (i) (by omega)) rfl ?_
  refine w_aload_n s36_16 rfl ?_
  refine w_getf s36_17 (hx.sq (j) (by omega)) rfl ?_
  refine w_isub s36_20 rfl ?_
  refine w_abs (v := x_ad (aa 5 i) (aa 5 j)) s36_21 ro36 rfl (by rw [e2, e4]; exact x_abs (by omega) (by omega)) ?_
  refine w_iadd s36_24 rfl ?_
  refine w_iret s36_25 rk36 ?_
  exact ⟨by rw [← (hs i j hi hj).2, x_walks_n (by omega) (by omega)], rfl⟩
theorem c22 {h0 h : am_H} {a b : Nat} {cc : Nat → Nat} {aa : Nat → Nat → Int32} {P : x_P} {D : x_D} (hx : XM h0 a b h cc aa P D) (n3 : cc 3 ≤ 10) (hsq : ∀ i, i < cc 3 → (∃ x, x ≤ 60 ∧ aa 4 i = nI x) ∧ (∃ y, y ≤ 60 ∧ aa 5 i = nI y)) (hs : x_short aa (cc 3)) (hlen : D.2.2.2.1 = 10 * 2 ^ cc 3) (f u s : Nat) (hf : f < cc 3) (hu : u < cc 3) (h2 : s < 2 ^ cc 3) (hb : s.testBit u = true) (htb : D.2.2.2.2 (10 * (s - 2 ^ u) + u) = nI (x_L aa (cc 3) (s - 2 ^ u) u)) : am_rd 22 [.ref 22, .ref 4, .int (nI f), .int (nI u), .int (nI s)] h (.int (nI (x_V aa (cc 3) s f u))) := by
  have h10 := Nat.pow_le_pow_right (n := 2) (by decide) n3
  have hbl := x_bit_le hb
  have h2u := Nat.two_pow_pos u
  show am_wp _ (_, [_, _, _, _, _], _) _ _
  refine w_aload_n s22_0 rfl ?_
  refine w_iload_n s22_1 rfl ?_
  refine w_callV1r s22_2 (hx.l 0 (by decide)) ow184 mc22_184 rfl rfl (hx.get 0 (by decide) (f) (show (f) < cc 3 by omega)) ?_
  refine w_cast s22_5 (hx.sq (f) (by omega)) ?_
  refine w_aload_n s22_8 rfl ?_
  refine w_iload_n s22_9 rfl ?_
  refine w_callV1r s22_10 (hx.l 0 (by decide)) ow184 mc22_184 rfl rfl (hx.get 0 (by decide) (u) (show (u) < cc 3 by omega)) ?_
  refine w_cast s22_13 (hx.sq (u) (by omega)) ?_
  refine w_callV1r s22_16 (hx.sq (f) (by omega)) ow36 mc22_36 rfl rfl (c36m hx n3 hsq hs (f) (u) (by omega) (by omega)) ?_
  refine w_aload_n s22_19 rfl ?_
  refine w_getf s22_20 hx.rd rfl ?_
  refine w_iload s22_23 rfl ?_
  refine w_iconst (v := 1) s22_25 rfl ?_
  refine w_iload_n s22_26 rfl ?_
  refine w_ishl s22_27 rfl ?_
  refine w_ixor s22_28 (x_xor s (by omega) u (by omega) hb) ?_
  refine w_bipush (v := 10) s22_29 rfl ?_
  refine w_imulN (x := (s - 2 ^ u)) (y := 10) s22_31 ?_
  refine w_iload_n s22_32 rfl ?_
  refine w_iaddN (x := ((s - 2 ^ u) * 10)) (y := u) s22_33 ?_
  refine w_ialdV (y := (((s - 2 ^ u) * 10) + u)) (v := nI (x_L aa (cc 3) (s - 2 ^ u) u)) s22_34 hx.ls (by rw [hlen]; omega) (by rw [hlen]; omega) (by rw [Nat.mul_comm]; exact htb) ?_
  refine w_iaddN (x := (x_W aa (f) (u))) (y := (x_L aa (cc 3) (s - 2 ^ u) u)) s22_35 ?_
  refine w_iret s22_36 rk22 ?_
  exact ⟨rfl, rfl⟩
theorem x_L_p {aa : Nat → Nat → Int32} {m : Nat} (hs : x_short aa m) (hm : m ≤ 10) : ∀ n s f, s < n → s < 2 ^ m → f < m → x_L aa m s f ≤ 120 * x_pop s 10
  | 0, _, _, h, _, _ => by cases h
  | n + 1, s, f, h, h2, hf => by
    by_cases h0 : s = 0
    · subst h0
      rw [x_L_0]
      exact Nat.zero_le _
    · obtain ⟨t, ht, hb⟩ := x_bit_ex h0 h2
      have h3 := x_bit_le hb
      have h4 := Nat.two_pow_pos t
      have h8 := Nat.pow_le_pow_right (n := 2) (by decide) hm
      rw [x_L_eq]
      have h5 := x_best_lo aa m s f m t ht hb
      have h6 := x_L_p hs hm n (s - 2 ^ t) t (by omega) (by omega) ht
      have h7 := (hs f t hf ht).1
      have h9 := x_popd s (by omega) t (by omega) hb
      unfold x_V at h5
      omega
theorem x_V_p {aa : Nat → Nat → Int32} {m s f t : Nat} (hs : x_short aa m) (hm : m ≤ 10) (h2 : s < 2 ^ m) (hf : f < m) (ht : t < m) (hb : s.testBit t = true) : x_V aa m s f t ≤ 1200 := by
  have h3 := x_bit_le hb
  have h4 := Nat.two_pow_pos t
  have h8 := Nat.pow_le_pow_right (n := 2) (by decide) hm
  have h6 := x_L_p hs hm (s - 2 ^ t + 1) (s - 2 ^ t) t (by omega) (by omega) ht
  have h7 := (hs f t hf ht).1
  have h9 := x_popd s (by omega) t (by omega) hb
  have h10 := x_pop10 s (by omega)
  unfold x_V
  omega
def x_Inv (aa : Nat → Nat → Int32) (cc : Nat → Nat) (s f k b0 c0 : Nat) : Prop := ((b0 = 1201 ∧ c0 = 0 ∧ ∀ u, u < k → s.testBit u = false) ∨ (c0 < k ∧ s.testBit c0 = true ∧ b0 = x_V aa (cc 3) s f c0 ∧ (∀ u, u < k → s.testBit u = true → x_V aa (cc 3) s f c0 ≤ x_V aa (cc 3) s f u) ∧ (∀ u, u < c0 → s.testBit u = true → x_V aa (cc 3) s f c0 < x_V aa (cc 3) s f u)))
theorem x_Inv_0 {aa : Nat → Nat → Int32} {cc : Nat → Nat} {s f : Nat} : x_Inv aa cc s f 0 1201 0 := Or.inl ⟨rfl, rfl, fun _ h => by cases h⟩
theorem x_Inv_n {aa : Nat → Nat → Int32} {cc : Nat → Nat} {s f k b0 c0 : Nat} (h : x_Inv aa cc s f k b0 c0) (hb : s.testBit k = false) : x_Inv aa cc s f (k + 1) b0 c0 := by
  rcases h with ⟨e1, e2, e3⟩ | ⟨e1, e2, e3, e4, e5⟩
  · refine Or.inl ⟨e1, e2, fun u hu => ?_⟩
    by_cases d : u = k
    · rw [d, hb]
    · exact e3 u (by omega)
  · refine Or.inr ⟨by omega, e2, e3, fun u hu hbu => ?_, e5⟩
    by_cases d : u = k
    · rw [d, hb] at hbu
      cases hbu
    · exact e4 u (by omega) hbu
theorem x_Inv_s {aa : Nat → Nat → Int32} {cc : Nat → Nat} {s f k b0 c0 : Nat} (h : x_Inv aa cc s f k b0 c0) (hb : s.testBit k = true) (hv : x_V aa (cc 3) s f k < 1201) : x_Inv aa cc s f (k + 1) (if x_V aa (cc 3) s f k < b0 then x_V aa (cc 3) s f k else b0) (if x_V aa (cc 3) s f k < b0 then k else c0) := by
  rcases h with ⟨e1, e2, e3⟩ | ⟨e1, e2, e3, e4, e5⟩
  · rw [if_pos (by omega), if_pos (by omega)]
    refine Or.inr ⟨by omega, hb, rfl, fun u hu hbu => ?_, fun u hu hbu => ?_⟩
    · by_cases d : u = k
      · rw [d]
        exact Nat.le_refl _
      · rw [e3 u (by omega)] at hbu
        cases hbu
    · rw [e3 u hu] at hbu
      cases hbu
  · by_cases c : x_V aa (cc 3) s f k < b0
    · rw [if_pos c, if_pos c]
      refine Or.inr ⟨by omega, hb, rfl, fun u hu hbu => ?_, fun u hu hbu => ?_⟩
      · by_cases d : u = k
        · rw [d]
          exact Nat.le_refl _
        · have := e4 u (by omega) hbu
          omega
      · have := e4 u (by omega) hbu
        omega
    · rw [if_neg c, if_neg c]
      refine Or.inr ⟨by omega, e2, e3, fun u hu hbu => ?_, e5⟩
      by_cases d : u = k
      · rw [d]
        omega
      · exact e4 u (by omega) hbu
theorem x_Inv_e {aa : Nat → Nat → Int32} {cc : Nat → Nat} {s f b0 c0 : Nat} (hs : x_short aa (cc 3)) (n3 : cc 3 ≤ 10) (h0 : s ≠ 0) (h2 : s < 2 ^ cc 3) (hf : f < cc 3) (h : x_Inv aa cc s f (cc 3) b0 c0) : c0 = x_nxt aa (cc 3) s f := by
  obtain ⟨t, ht, hb, ev⟩ := x_L_hi hs n3 h0 h2 hf
  rcases h with ⟨e1, e2, e3⟩ | ⟨e1, e2, e3, e4, e5⟩
  · rw [e3 t ht] at hb
    cases hb
  · have h1 := e4 t ht hb
    have h3 := x_best_lo aa (cc 3) s f (cc 3) c0 e1 e2
    rw [← x_L_eq] at h3
    have ec : x_V aa (cc 3) s f c0 = x_L aa (cc 3) s f := by omega
    refine (x_fi_t ?_ ?_ (cc 3) e1).symm
    · cases q : x_any (x_nx1 aa (cc 3) s f) c0 with
      | false => rfl
      | true =>
        obtain ⟨i, i1, i2, -⟩ := x_any_i q
        unfold x_nx1 at i2
        rw [Bool.and_eq_true] at i2
        have := e5 i i1 i2.1
        have := of_decide_eq_true i2.2
        omega
    · unfold x_nx1
      rw [e2, decide_eq_true ec]
      rfl
theorem c21 {h0 h : am_H} {a b : Nat} {cc : Nat → Nat} {aa : Nat → Nat → Int32} {P : x_P} {D : x_D} (hx : XM h0 a b h cc aa P D) (n3 : cc 3 ≤ 10) (hsq : ∀ i, i < cc 3 → (∃ x, x ≤ 60 ∧ aa 4 i = nI x) ∧ (∃ y, y ≤ 60 ∧ aa 5 i = nI y)) (hs : x_short aa (cc 3)) (hlen : D.2.2.2.1 = 10 * 2 ^ cc 3) (hms : D.2.2.1 = cc 3) (f s : Nat) (hf : f < cc 3) (h2 : s < 2 ^ cc 3) (h0s : s ≠ 0) (htb : ∀ u, u < cc 3 → s.testBit u = true → D.2.2.2.2 (10 * (s - 2 ^ u) + u) = nI (x_L aa (cc 3) (s - 2 ^ u) u)) : am_rd 21 [.ref 22, .ref 4, .int (nI f), .int (nI s)] h (.int (nI (x_nxt aa (cc 3) s f))) := by
  have h10 := Nat.pow_le_pow_right (n := 2) (by decide) n3
  show am_wp _ (_, [_, _, _, _, _, _, _, _], _) _ _
  refine w_sipush (v := 1201) s21_0 rfl ?_
  refine w_istore s21_3 rfl ?_
  show am_wp _ (_, [_, _, _, _, _, _, _, _], _) _ _
  refine w_iconst (v := 0) s21_5 rfl ?_
  refine w_istore s21_6 rfl ?_
  show am_wp _ (_, [_, _, _, _, _, _, _, _], _) _ _
  refine w_iconst (v := 0) s21_8 rfl ?_
  refine w_istore s21_9 rfl ?_
  show am_wp _ (_, [_, _, _, _, _, _, _, _], _) _ _
  refine am_lp (n := cc 3) (P := fun k => ∀ b0 c0 v7, x_Inv aa cc s f k b0 c0 → b0 ≤ 1201 → am_wp 21 (11, [_, _, _, _, some (.int (nI b0)), some (.int (nI c0)), some (.int (nI k)), v7], []) h _) ?_ 0 (Nat.zero_le _) 1201 0 _ x_Inv_0 (Nat.le_refl _)
  intro k hk ihk b0 c0 v7 hI hB
  show am_wp _ (_, [_, _, _, _, _, _, _, _], _) _ _
  refine w_iload s21_11 rfl ?_
  refine w_aload_n s21_13 rfl ?_
  refine w_getf s21_14 hx.rd rfl ?_
  rw [hms]
  refine w_icmpgeN (x := k) (y := cc 3) s21_17 rfl (by omega) (by omega)  (fun c17 => ?_) (fun c17 => ?_)
  · skip
    refine w_iload s21_62 rfl ?_
    refine w_iret s21_64 rk21 ?_
    have e : k = cc 3 := by omega
    subst e
    exact ⟨by rw [x_Inv_e hs n3 h0s h2 hf hI], rfl⟩
  · skip
    refine w_iload_n s21_20 rfl ?_
    refine w_iload s21_21 rfl ?_
    refine w_ishr s21_23 rfl ?_
    refine w_iconst (v := 1) s21_24 rfl ?_
    refine w_iand s21_25 rfl ?_
    refine w_iconst (v := 1) s21_26 rfl ?_
    refine w_icmpne s21_27 rfl  (fun c27 => ?_) (fun c27 => ?_)
    · skip
      have hbk : s.testBit k = false := by
        rw [← x_hasN (s := s) (t := k) (by omega) (by omega)]
        exact decide_eq_false c27
      refine w_iinc s21_56 rfl (nI_inc (k)) rfl ?_
      show am_wp _ (_, [_, _, _, _, _, _, _, _], _) _ _
      refine w_goto s21_59 rfl ?_
      first | exact ihk (by omega) _ _ _ hIs (by omega) | exact ihk (by omega) _ _ _ (x_Inv_n hI hbk) hB
    · skip
      have hbk : s.testBit k = true := by
        rw [← x_hasN (s := s) (t := k) (by omega) (by omega)]
        exact decide_eq_true c27
      have hVb := x_V_p hs n3 h2 hf (show k < cc 3 by omega) hbk
      have hIs := x_Inv_s hI hbk (by omega)
      refine w_aload_n s21_30 rfl ?_
      refine w_aload_n s21_31 rfl ?_
      refine w_iload_n s21_32 rfl ?_
      refine w_iload s21_33 rfl ?_
      refine w_iload_n s21_35 rfl ?_
      refine w_callV4r s21_36 hx.rd ow22 mc21_22 rfl rfl (c22 hx n3 hsq hs hlen f k s hf (by omega) h2 hbk (htb k (by omega) hbk)) ?_
      refine w_istore s21_39 rfl ?_
      show am_wp _ (_, [_, _, _, _, _, _, _, _], _) _ _
      refine w_iload s21_41 rfl ?_
      refine w_iload s21_43 rfl ?_
      refine w_icmpgeN (x := (x_V aa (cc 3) s f k)) (y := b0) s21_45 rfl (by omega) (by omega)  (fun c45 => ?_) (fun c45 => ?_)
      · skip
        rw [if_neg (by omega), if_neg (by omega)] at hIs
        refine w_iinc s21_56 rfl (nI_inc (k)) rfl ?_
        show am_wp _ (_, [_, _, _, _, _, _, _, _], _) _ _
        refine w_goto s21_59 rfl ?_
        first | exact ihk (by omega) _ _ _ hIs (by omega) | exact ihk (by omega) _ _ _ (x_Inv_n hI hbk) hB
      · skip
        rw [if_pos (by omega), if_pos (by omega)] at hIs
        refine w_iload s21_48 rfl ?_
        refine w_istore s21_50 rfl ?_
        show am_wp _ (_, [_, _, _, _, _, _, _, _], _) _ _
        refine w_iload s21_52 rfl ?_
        refine w_istore s21_54 rfl ?_
        show am_wp _ (_, [_, _, _, _, _, _, _, _], _) _ _
        refine w_iinc s21_56 rfl (nI_inc (k)) rfl ?_
        show am_wp _ (_, [_, _, _, _, _, _, _, _], _) _ _
        refine w_goto s21_59 rfl ?_
        first | exact ihk (by omega) _ _ _ hIs (by omega) | exact ihk (by omega) _ _ _ (x_Inv_n hI hbk) hB
theorem XM.cD {h0 h : am_H} {a b : Nat} {cc : Nat → Nat} {aa : Nat → Nat → Int32} {P : x_P} {D : x_D} (hx : XM h0 a b h cc aa P D) {D' : x_D} (e1 : D'.1 = D.1) (e2 : D'.2.1 = D.2.1) (g : XG h0 a b h (xlive cc D') (xcell cc aa P D') P) : XM h0 a b h cc aa P D' := ⟨g, hx.2.1, by rw [e2]; exact hx.2.2⟩
theorem x_liveD {cc : Nat → Nat} {D D' : x_D} (e2 : D'.2.1 = D.2.1) : xlive cc D' = xlive cc D := by
  funext k i
  unfold xlive
  rw [e2]
theorem x_othD (cc : Nat → Nat) (aa : Nat → Nat → Int32) (P P' : x_P) (D D' : x_D) (e1 : D'.1 = D.1) (e2 : D'.2.1 = D.2.1) (eP : ∀ k i, k ≠ 9 → P' k i = P k i) (k i : Nat) (h8 : k = 8 → i < 6) (n9 : k ≠ 9) (n18 : k ≠ 18) : xcell cc aa P' D' k i = xcell cc aa P D k i := by
  unfold xcell
  split <;> first | rfl | exact absurd rfl n9 | exact absurd rfl n18 | skip
  · rw [eP 6 i (by decide), eP 7 i (by decide)]
  · have hi := h8 rfl
    rw [e2, show x_els cc P' i = x_els cc P i from ?_]
    funext j
    unfold x_els
    rw [eP i j (by omega)]
  · unfold xb
    rw [e1, e2, eP 8 i (by decide)]
theorem xm_ms {h0 h : am_H} {a b : Nat} {cc : Nat → Nat} {aa : Nat → Nat → Int32} {P : x_P} {D : x_D} (hx : XM h0 a b h cc aa P D) (v : Nat) : XM h0 a b (h.set 22 (.inr (6, [.ref 23, .int (nI (cc 45)), .ref (P 9 0), .int (nI v)]))) cc aa P (D.1, D.2.1, v, D.2.2.2) := by
  refine ⟨?_, hx.2.1, hx.2.2⟩
  have g := hx.1.st (k := 18) (i := 0) (c := .inr (6, [.ref 23, .int (nI (cc 45)), .ref (P 9 0), .int (nI v)])) ⟨by decide, rfl⟩ rfl
  rw [hx.2.1 18 0 (by decide) (by decide)] at g
  refine g.cg (Nat.le_refl _) (Nat.le_refl _) (fun k i l => ⟨l, ?_⟩)
  by_cases n18 : k = 18
  · subst n18
    rw [show i = 0 from l.2, u2_s]
    rfl
  · rw [u2_k _ _ n18]
    by_cases n9 : k = 9
    · subst n9
      rfl
    · exact x_othD cc aa P P D (D.1, D.2.1, v, D.2.2.2) rfl rfl (fun _ _ _ => rfl) k i (fun e => by subst e; exact l.1) n9 n18
theorem xm_ls {h0 h : am_H} {a b : Nat} {cc : Nat → Nat} {aa : Nat → Nat → Int32} {P : x_P} {D : x_D} (hx : XM h0 a b h cc aa P D) (n : Nat) : XM h0 (a + 1) (b + n) ((h ++ ([.inl (0, n, .inl (fun _ => 0))] : am_H)).set 22 (.inr (6, [.ref 23, .int (nI (cc 45)), .ref h.length, .int (nI D.2.2.1)]))) cc aa (u2 P 9 0 h.length) (D.1, D.2.1, D.2.2.1, n, fun _ => 0) := by
  have hp : ∀ k i, k ≠ 9 → u2 P 9 0 h.length k i = P k i := fun k i e => u2_k _ _ e
  refine ⟨?_, fun k i h1 h2 => by rw [hp k i (by omega)]; exact hx.2.1 k i h1 h2, hx.2.2⟩
  have g0 := hx.1.nw 9 0 (.inl (0, n, .inl (fun _ => 0)))
  have g := g0.st (k := 18) (i := 0) (c := .inr (6, [.ref 23, .int (nI (cc 45)), .ref h.length, .int (nI D.2.2.1)])) (Or.inr ⟨by decide, rfl⟩) (by rw [u2_k _ _ (by decide)]; rfl)
  rw [hp 18 0 (by decide), hx.2.1 18 0 (by decide) (by decide)] at g
  refine g.cg (Nat.le_refl _) (Nat.le_refl _) (fun k i l => ⟨Or.inr l, ?_⟩)
  by_cases n18 : k = 18
  · subst n18
    rw [show i = 0 from l.2, u2_s]
    show Sum.inr (6, [Value.ref 23, Value.int (nI (cc 45)), Value.ref (u2 P 9 0 h.length 9 0), Value.int (nI D.2.2.1)]) = _
    rw [u2_s]
  · rw [u2_k _ _ n18]
    by_cases n9 : k = 9
    · subst n9
      rw [show i = 0 from l.2, u2_s]
      rfl
    · rw [u2_k _ _ n9]
      exact x_othD cc aa P (u2 P 9 0 h.length) D (D.1, D.2.1, D.2.2.1, n, fun _ => 0) rfl rfl hp k i (fun e => by subst e; exact l.1) n9 n18
theorem xm_st {h0 h : am_H} {a b : Nat} {cc : Nat → Nat} {aa : Nat → Nat → Int32} {P : x_P} {D : x_D} (hx : XM h0 a b h cc aa P D) (f : Nat → Int32) : XM h0 a b (h.set (P 9 0) (.inl (0, D.2.2.2.1, .inl f))) cc aa P (D.1, D.2.1, D.2.2.1, D.2.2.2.1, f) := by
  refine ⟨?_, hx.2.1, hx.2.2⟩
  have g := hx.1.st (k := 9) (i := 0) (c := .inl (0, D.2.2.2.1, .inl f)) ⟨by decide, rfl⟩ rfl
  refine g.cg (Nat.le_refl _) (Nat.le_refl _) (fun k i l => ⟨l, ?_⟩)
  by_cases n9 : k = 9
  · subst n9
    rw [show i = 0 from l.2, u2_s]
    rfl
  · rw [u2_k _ _ n9]
    by_cases n18 : k = 18
    · subst n18
      rfl
    · exact x_othD cc aa P P D (D.1, D.2.1, D.2.2.1, D.2.2.2.1, f) rfl rfl (fun _ _ _ => rfl) k i (fun e => by subst e; exact l.1) n9 n18
theorem x_bit0 {s t : Nat} (hs : s < 2 ^ 31) (ht : t < 32) : (nI s >>> (nI t &&& 31)) &&& 1 = 0 ↔ s.testBit t = false := by
  rw [pk_shrN hs _ t (x_sh t ht), pk_andN (Nat.lt_of_le_of_lt (Nat.div_le_self _ _) (by omega)) 1 (by decide), Nat.testBit_eq_decide_div_mod_eq, show (0 : Int32) = nI 0 from rfl, nI_eq (by omega) (by decide)]
  constructor
  · intro e
    exact decide_eq_false (by omega)
  · intro e
    have := of_decide_eq_false e
    omega
theorem x_nxt_cg {aa aa' : Nat → Nat → Int32} (e4 : aa' 4 = aa 4) (e5 : aa' 5 = aa 5) (m s f : Nat) : x_nxt aa' m s f = x_nxt aa m s f := by
  have hW : x_W aa' = x_W aa := by
    funext i j
    unfold x_W x_walks
    rw [e4, e5]
  have : x_nx1 aa' m s f = x_nx1 aa m s f := by
    funext u
    unfold x_nx1 x_V
    rw [hW, x_L_cg e4 e5]
  unfold x_nxt
  rw [this]
theorem x_nxt_V {aa : Nat → Nat → Int32} {m s f : Nat} (hs : x_short aa m) (hm : m ≤ 10) (h0 : s ≠ 0) (h2 : s < 2 ^ m) (hf : f < m) : x_V aa m s f (x_nxt aa m s f) = x_L aa m s f ∧ s.testBit (x_nxt aa m s f) = true := by
  obtain ⟨h1, h2, h3⟩ := x_nxt_p hs hm h0 h2 hf
  unfold x_nx1 at h2
  rw [Bool.and_eq_true] at h2
  exact ⟨of_decide_eq_true h2.2, h2.1⟩
def x_Tab (aa : Nat → Nat → Int32) (m s : Nat) (lf : Nat → Int32) : Prop := ∀ s1, s1 < s → ∀ f, f < m → s1.testBit f = false → lf (10 * s1 + f) = nI (x_L aa m s1 f)
theorem x_Tab_u {aa : Nat → Nat → Int32} {m s : Nat} {lf : Nat → Int32} (hT : x_Tab aa m s lf) (hm : m ≤ 10) (h2 : s < 2 ^ m) : ∀ u, u < m → s.testBit u = true → lf (10 * (s - 2 ^ u) + u) = nI (x_L aa m (s - 2 ^ u) u) := by
  intro u hu hb
  have h10 := Nat.pow_le_pow_right (n := 2) (by decide) hm
  have := x_bit_le hb
  have := Nat.two_pow_pos u
  exact hT _ (by omega) u hu (x_tbd s (by omega) u (by omega) hb)
theorem c20 {h0 h : am_H} {a b : Nat} {cc : Nat → Nat} {aa : Nat → Nat → Int32} {P : x_P} {D : x_D} (hx : XL h0 a b h cc aa P D) (iv : IV cc aa) (h3 : 0 < cc 3) : am_ev 20 [.ref 22, .ref 4] h (fun v h1 => v = none ∧ ∃ P2 D2, D2.2.2.1 = cc 3 ∧ XL h0 (a + 1) (b + 10240) h1 cc aa P2 D2) := by
  have n3 := iv.n3
  have hsq := iv.sq
  have hs := iv.short
  have h10 := Nat.pow_le_pow_right (n := 2) (by decide) n3
  have h2p := Nat.two_pow_pos (cc 3)
  replace hx := hx.xm
  show am_wp _ (_, [_, _, _, _, _], _) _ _
  refine w_aload_n s20_0 rfl ?_
  refine w_aload_n s20_1 rfl ?_
  refine w_callV0r s20_2 (hx.l 0 (by decide)) ow181 mc20_181 rfl rfl (hx.size 0 (by decide)) ?_
  refine w_putf s20_5 (by decide +kernel) hx.rd rfl rfl ?_
  replace hx := xm_ms hx (cc 3)
  show am_wp _ (_, _, _) (h.set 22 (.inr (6, [.ref 23, .int (nI (cc 45)), .ref (P 9 0), .int (nI (cc 3))]))) _
  generalize h.set 22 (.inr (6, [.ref 23, .int (nI (cc 45)), .ref (P 9 0), .int (nI (cc 3))])) = h at hx ⊢
  refine w_aload_n s20_8 rfl ?_
  refine w_iconst (v := 1) s20_9 rfl ?_
  refine w_aload_n s20_10 rfl ?_
  refine w_getf s20_11 hx.rd rfl ?_
  show am_wp _ (_, _, Value.int (nI (cc 3)) :: _) _ _
  refine w_ishl s20_14 (x_one_shl n3) ?_
  refine w_bipush (v := 10) s20_15 rfl ?_
  refine w_imulN (x := (2 ^ cc 3)) (y := 10) s20_17 ?_
  refine w_nwi (n := 2 ^ cc 3 * 10) s20_18 (by omega) ?_
  refine w_putf s20_20 (by decide +kernel) ((List.getElem?_append_left (x_lt (hx.rd))).trans (hx.rd)) rfl rfl ?_
  replace hx := xm_ls hx (2 ^ cc 3 * 10)
  show am_wp _ (_, _, _) ((h ++ ([.inl (0, 2 ^ cc 3 * 10, .inl (fun _ => 0))] : am_H)).set 22 (.inr (6, [.ref 23, .int (nI (cc 45)), .ref h.length, .int (nI (cc 3))]))) _
  obtain ⟨P1, hP1⟩ : ∃ P1, P1 = u2 P 9 0 h.length := ⟨_, rfl⟩
  rw [← hP1] at hx
  have hx2 : XM h0 (a + 1) (b + 2 ^ cc 3 * 10) _ cc aa P1 (D.1, D.2.1, cc 3, 2 ^ cc 3 * 10, fun _ => 0) := hx
  clear hx hP1
  generalize ((h ++ ([.inl (0, 2 ^ cc 3 * 10, .inl (fun _ => 0))] : am_H)).set 22 (.inr (6, [.ref 23, .int (nI (cc 45)), .ref h.length, .int (nI (cc 3))])) : am_H) = h at hx2 ⊢
  have hT0 : x_Tab aa (cc 3) 1 (fun _ => 0) := fun s1 l1 f hf hb => by rw [show s1 = 0 by omega, x_L_0]; rfl
  refine w_iconst (v := 1) s20_23 rfl ?_
  refine w_istore_n s20_24 rfl ?_
  show am_wp _ (_, [_, _, _, _, _], _) _ _
  refine am_lp (n := 2 ^ cc 3) (P := fun s => ∀ h lf v3 v4, 1 ≤ s → XM h0 (a + 1) (b + 2 ^ cc 3 * 10) h cc aa P1 (D.1, D.2.1, cc 3, 2 ^ cc 3 * 10, lf) → x_Tab aa (cc 3) s lf → am_wp 20 (25, [_, _, some (.int (nI s)), v3, v4], []) h _) ?_ 1 (Nat.succ_le_of_lt h2p) h _ _ _ (Nat.le_refl _) hx2 hT0
  clear hx2 hT0; try clear h
  intro s hsl ihs h lf v3 v4 hs1 hx hT
  show am_wp _ (_, [_, _, _, _, _], _) _ _
  refine w_iload_n s20_25 rfl ?_
  refine w_iconst (v := 1) s20_26 rfl ?_
  refine w_aload_n s20_27 rfl ?_
  refine w_getf s20_28 hx.rd rfl ?_
  show am_wp _ (_, _, Value.int (nI (cc 3)) :: _) _ _
  refine w_ishl s20_31 (x_one_shl n3) ?_
  refine w_icmpgeN (x := s) (y := (2 ^ cc 3)) s20_32 rfl (by omega) (by omega)  (fun c32 => ?_) (fun c32 => ?_)
  · skip
    refine w_vret s20_94 rk20 ?_
    have e : s = 2 ^ cc 3 := by omega
    subst e
    refine ⟨rfl, P1, _, rfl, (hx.1.cg (Nat.le_refl _) (by omega) (fun k i l => ⟨l, rfl⟩)), hx.2.1, hx.2.2, Nat.le_refl _, fun _ _ => ⟨Nat.mul_comm _ _, hT⟩⟩
  · skip
    refine w_iconst (v := 0) s20_35 rfl ?_
    refine w_istore_n s20_36 rfl ?_
    show am_wp _ (_, [_, _, _, _, _], _) _ _
    refine am_lp (n := cc 3) (P := fun f => ∀ h lf v4, XM h0 (a + 1) (b + 2 ^ cc 3 * 10) h cc aa P1 (D.1, D.2.1, cc 3, 2 ^ cc 3 * 10, lf) → x_Tab aa (cc 3) s lf → (∀ f1, f1 < f → s.testBit f1 = false → lf (10 * s + f1) = nI (x_L aa (cc 3) s f1)) → am_wp 20 (37, [_, _, some (.int (nI s)), some (.int (nI f)), v4], []) h _) ?_ 0 (Nat.zero_le _) h lf _ hx hT (fun _ c => by cases c)
    clear hx hT; try clear h lf
    intro f hf ihf h lf v4 hx hT hR
    show am_wp _ (_, [_, _, _, _, _], _) _ _
    refine w_iload_n s20_37 rfl ?_
    refine w_aload_n s20_38 rfl ?_
    refine w_getf s20_39 hx.rd rfl ?_
    show am_wp _ (_, _, Value.int (nI (cc 3)) :: _) _ _
    refine w_icmpgeN (x := f) (y := cc 3) s20_42 rfl (by omega) (by omega)  (fun c42 => ?_) (fun c42 => ?_)
    · skip
      have ef : f = cc 3 := by omega
      subst ef
      refine w_iinc s20_88 rfl (nI_inc (s)) rfl ?_
      show am_wp _ (_, [_, _, _, _, _], _) _ _
      refine w_goto s20_91 rfl ?_
      exact ihs (by omega) h lf _ _ (by omega) hx (fun s1 l1 f1 hf1 hb1 => by
        by_cases d : s1 = s
        · rw [d] at hb1 ⊢
          exact hR f1 hf1 hb1
        · exact hT s1 (by omega) f1 hf1 hb1)
    · skip
      refine w_iload_n s20_45 rfl ?_
      refine w_iload_n s20_46 rfl ?_
      refine w_ishr s20_47 rfl ?_
      refine w_iconst (v := 1) s20_48 rfl ?_
      refine w_iand s20_49 rfl ?_
      refine w_ifne s20_50 rfl  (fun c50 => ?_) (fun c50 => ?_)
      · skip
        have hbf : s.testBit f = true := by
          cases hq : s.testBit f with
          | true => rfl
          | false => exact absurd ((x_bit0 (by omega) (by omega)).mpr hq) c50
        refine w_iinc s20_82 rfl (nI_inc (f)) rfl ?_
        show am_wp _ (_, [_, _, _, _, _], _) _ _
        refine w_goto s20_85 rfl ?_
        first | exact ihf (by omega) _ _ _ hx hT2 hR2 | exact ihf (by omega) _ _ _ hx hT (fun f1 l1 hb1 => by
          by_cases d : f1 = f
          · rw [d, hbf] at hb1
            cases hb1
          · exact hR f1 (by omega) hb1)
      · skip
        have hbf : s.testBit f = false := (x_bit0 (by omega) (by omega)).mp c50
        have hTu := x_Tab_u hT n3 (show s < 2 ^ cc 3 by omega)
        have hnx := x_nxt_p hs n3 (show s ≠ 0 by omega) (show s < 2 ^ cc 3 by omega) (show f < cc 3 by omega)
        have hnv := x_nxt_V hs n3 (show s ≠ 0 by omega) (show s < 2 ^ cc 3 by omega) (show f < cc 3 by omega)
        refine w_aload_n s20_53 rfl ?_
        refine w_aload_n s20_54 rfl ?_
        refine w_iload_n s20_55 rfl ?_
        refine w_iload_n s20_56 rfl ?_
        refine w_callV3r s20_57 hx.rd ow21 mc20_21 rfl rfl (c21 hx n3 hsq hs (Nat.mul_comm _ _) rfl f s (by omega) (by omega) (by omega) hTu) ?_
        refine w_istore s20_60 rfl ?_
        show am_wp _ (_, [_, _, _, _, _], _) _ _
        refine w_aload_n s20_62 rfl ?_
        refine w_getf s20_63 hx.rd rfl ?_
        refine w_iload_n s20_66 rfl ?_
        refine w_bipush (v := 10) s20_67 rfl ?_
        refine w_imulN (x := s) (y := 10) s20_69 ?_
        refine w_iload_n s20_70 rfl ?_
        refine w_iaddN (x := (s * 10)) (y := f) s20_71 ?_
        refine w_aload_n s20_72 rfl ?_
        refine w_aload_n s20_73 rfl ?_
        refine w_iload_n s20_74 rfl ?_
        refine w_iload s20_75 rfl ?_
        refine w_iload_n s20_77 rfl ?_
        refine w_callV4r s20_78 hx.rd ow22 mc20_22 rfl rfl (show am_rd 22 _ _ (.int (nI (x_L aa (cc 3) s f))) from hnv.1 ▸ c22 hx n3 hsq hs (Nat.mul_comm _ _) f (x_nxt aa (cc 3) s f) s (by omega) hnx.1 (by omega) hnv.2 (hTu _ hnx.1 hnv.2)) ?_
        refine w_iastN (y := s * 10 + f) s20_81 hx.ls (show s * 10 + f < 2 ^ cc 3 * 10 by omega) (show 2 ^ cc 3 * 10 < 2 ^ 31 by omega) ?_
        replace hx := xm_st hx (upd lf (s * 10 + f) (nI (x_L aa (cc 3) s f)))
        have hT2 : x_Tab aa (cc 3) s (upd lf (s * 10 + f) (nI (x_L aa (cc 3) s f))) := fun s1 l1 f1 hf1 hb1 => by rw [x_up_n (by omega)]; exact hT s1 l1 f1 hf1 hb1
        have hR2 : ∀ f1, f1 < f + 1 → s.testBit f1 = false → upd lf (s * 10 + f) (nI (x_L aa (cc 3) s f)) (10 * s + f1) = nI (x_L aa (cc 3) s f1) := by
          intro f1 l1 hb1
          by_cases d : f1 = f
          · rw [d, Nat.mul_comm, pk_us]
          · rw [x_up_n (by omega)]
            exact hR f1 (by omega) hb1
        refine w_iinc s20_82 rfl (nI_inc (f)) rfl ?_
        show am_wp _ (_, [_, _, _, _, _], _) _ _
        refine w_goto s20_85 rfl ?_
        first | exact ihf (by omega) _ _ _ hx hT2 hR2 | exact ihf (by omega) _ _ _ hx hT (fun f1 l1 hb1 => by
          by_cases d : f1 = f
          · rw [d, hbf] at hb1
            cases hb1
          · exact hR f1 (by omega) hb1)
