/-! changes in the class's world -/
theorem x_L_cg {aa aa' : Nat → Nat → Int32} (e4 : aa' 4 = aa 4) (e5 : aa' 5 = aa 5) (m : Nat) : x_L aa' m = x_L aa m := by
  have hW : x_W aa' = x_W aa := by
    funext i j
    unfold x_W x_walks
    rw [e4, e5]
  have hb : ∀ T, x_best aa' T = x_best aa T := by
    intro T
    funext s f n
    unfold x_best
    refine x_it_c n (fun i _ b => ?_)
    unfold x_bf
    rw [hW]
  have hT : ∀ n, x_T aa' m n = x_T aa m n := by
    intro n
    induction n with
    | zero => rfl
    | succ n ih =>
      funext s f
      show (if s = n then x_best aa' (x_T aa' m n) n f m else x_T aa' m n s f) = (if s = n then x_best aa (x_T aa m n) n f m else x_T aa m n s f)
      rw [ih, hb]
  funext s f
  unfold x_L
  rw [hT, hb]
/-- the counts of the lists are the same -/
def x_ceq (cc' cc : Nat → Nat) : Prop := cc' 3 = cc 3 ∧ cc' 8 = cc 8 ∧ cc' 20 = cc 20 ∧ cc' 28 = cc 28 ∧ cc' 31 = cc 31 ∧ cc' 38 = cc 38
theorem x_ceq_n {cc' cc : Nat → Nat} (e : x_ceq cc' cc) : xn cc' = xn cc := by
  obtain ⟨e1, e2, e3, e4, e5, e6⟩ := e
  funext q
  unfold xn
  split <;> assumption
theorem x_ceq_l {cc' cc : Nat → Nat} (e : x_ceq cc' cc) (D : x_D) : xlive cc' D = xlive cc D := by
  obtain ⟨e1, e2, e3, e4, e5, e6⟩ := e
  funext k i
  unfold xlive
  rw [e1, e2, e3, e4, e5, e6]
theorem x_tab_cg {cc' cc : Nat → Nat} {aa' aa : Nat → Nat → Int32} {D : x_D} (h : x_tab cc aa D) (e3 : cc' 3 = cc 3) (e4 : aa' 4 = aa 4) (e5 : aa' 5 = aa 5) : x_tab cc' aa' D := by
  unfold x_tab at h ⊢
  rw [e3, x_L_cg e4 e5]
  exact h
theorem XS.cg {cc' cc : Nat → Nat} {aa' aa : Nat → Nat → Int32} {P : x_P} {D : x_D} (h : XS cc aa P D) (e : x_ceq cc' cc) (e4 : aa' 4 = aa 4) (e5 : aa' 5 = aa 5) : XS cc' aa' P D := ⟨h.1, by rw [x_ceq_n e]; exact h.2.1, x_tab_cg h.2.2 e.1 e4 e5⟩
theorem XL.upd {h0 h : am_H} {a b : Nat} {cc : Nat → Nat} {aa : Nat → Nat → Int32} {P : x_P} {D : x_D} (hx : XL h0 a b h cc aa P D) (K I : Nat) (l : xlive cc D K I) {cc' : Nat → Nat} {aa' : Nat → Nat → Int32} {c : am_C} {n : Nat} (hn : P K I = n) (hsl : am_sl c = am_sl (xcell cc aa P D K I)) (e : x_ceq cc' cc) (e4 : aa' 4 = aa 4) (e5 : aa' 5 = aa 5) (hc : xcell cc' aa' P D K I = c) (ho : ∀ k i, xlive cc D k i → ¬ (k = K ∧ i = I) → xcell cc' aa' P D k i = xcell cc aa P D k i) : XL h0 a b (h.set n c) cc' aa' P D := by
  subst hn
  refine ⟨(hx.1.st (c := c) l hsl).cg (Nat.le_refl _) (Nat.le_refl _) (fun k i lk => ?_), hx.2.cg e e4 e5⟩
  rw [x_ceq_l e] at lk
  refine ⟨lk, ?_⟩
  by_cases d : k = K ∧ i = I
  · rw [d.1, d.2, u2_s, hc]
  · rw [show u2 (xcell cc aa P D) K I c k i = xcell cc aa P D k i from if_neg d]
    exact ho k i lk d
theorem x_c13 (cc : Nat → Nat) (aa : Nat → Nat → Int32) (P : x_P) (D : x_D) (i : Nat) : xcell cc aa P D 13 i = .inr (7, [.ref (12 + 2 * i), .int (x_sz aa i)]) := rfl
theorem x_not22 (n : Nat) : ¬ n + 22 ≤ 21 := by omega
theorem x_up_n {f : Nat → Int32} {k j : Nat} {v : Int32} (h : ¬ j = k) : upd f k v j = f j := if_neg h
theorem xw_c0 {h0 h : am_H} {a b : Nat} {cc : Nat → Nat} {aa : Nat → Nat → Int32} {P : x_P} {D : x_D} (hx : XL h0 a b h cc aa P D) (v : Nat) : XL h0 a b (h.set (3) (.inr (10, (xoF cc).set 11 (.int (nI v))))) (uc cc 0 v) (aa) P D := hx.upd 10 (0) ⟨by decide, rfl⟩ (hx.2.1 _ _ (by decide) (by decide)) rfl ⟨rfl, rfl, rfl, rfl, rfl, rfl⟩ rfl rfl rfl (fun k i l e => match k, l, e with | 0, _, _ => rfl | 1, _, _ => rfl | 2, _, _ => rfl | 3, _, _ => rfl | 4, _, _ => rfl | 5, _, _ => rfl | 6, _, _ => rfl | 7, _, _ => rfl | 8, _, _ => rfl | 9, _, _ => rfl | 10, l, e => (e ⟨rfl, l.2⟩).elim | 11, _, _ => rfl | 12, _, _ => rfl | 13, _, _ => rfl | 14, _, _ => rfl | 15, _, _ => rfl | 16, _, _ => rfl | 17, _, _ => rfl | 18, _, _ => rfl | 19, _, _ => rfl | 20, _, _ => rfl | 21, _, _ => rfl | n + 22, l, _ => absurd l.1 (x_not22 n))
theorem x_pc0 {mi pc pc' q i0 : Nat} {z : Int} {ls : am_L} {st : List Value} {Q : Option Value → am_H → Prop} {h0 h : am_H} {a b : Nat} {cc : Nat → Nat} {aa : Nat → Nat → Int32} {P : x_P} {D : x_D} (hx : XL h0 a b h cc aa P D) (v : Nat) (hf : am_S mi pc pc' (.putfield i0, 10, 11, q, z)) (k : ∀ h, XL h0 a b h (uc cc 0 v) aa P D → am_wp mi (pc', ls, st) h Q) (hm : am_may mi 10 11 = true := by decide +kernel) : am_wp mi (pc, ls, .int (nI v) :: .ref 3 :: st) h Q := w_putf hf hm hx.o rfl rfl (k _ (xw_c0 hx v))
theorem xw_c2 {h0 h : am_H} {a b : Nat} {cc : Nat → Nat} {aa : Nat → Nat → Int32} {P : x_P} {D : x_D} (hx : XL h0 a b h cc aa P D) (v : Nat) : XL h0 a b (h.set (3) (.inr (10, (xoF cc).set 12 (.int (nI v))))) (uc cc 2 v) (aa) P D := hx.upd 10 (0) ⟨by decide, rfl⟩ (hx.2.1 _ _ (by decide) (by decide)) rfl ⟨rfl, rfl, rfl, rfl, rfl, rfl⟩ rfl rfl rfl (fun k i l e => match k, l, e with | 0, _, _ => rfl | 1, _, _ => rfl | 2, _, _ => rfl | 3, _, _ => rfl | 4, _, _ => rfl | 5, _, _ => rfl | 6, _, _ => rfl | 7, _, _ => rfl | 8, _, _ => rfl | 9, _, _ => rfl | 10, l, e => (e ⟨rfl, l.2⟩).elim | 11, _, _ => rfl | 12, _, _ => rfl | 13, _, _ => rfl | 14, _, _ => rfl | 15, _, _ => rfl | 16, _, _ => rfl | 17, _, _ => rfl | 18, _, _ => rfl | 19, _, _ => rfl | 20, _, _ => rfl | 21, _, _ => rfl | n + 22, l, _ => absurd l.1 (x_not22 n))
theorem x_pc2 {mi pc pc' q i0 : Nat} {z : Int} {ls : am_L} {st : List Value} {Q : Option Value → am_H → Prop} {h0 h : am_H} {a b : Nat} {cc : Nat → Nat} {aa : Nat → Nat → Int32} {P : x_P} {D : x_D} (hx : XL h0 a b h cc aa P D) (v : Nat) (hf : am_S mi pc pc' (.putfield i0, 10, 12, q, z)) (k : ∀ h, XL h0 a b h (uc cc 2 v) aa P D → am_wp mi (pc', ls, st) h Q) (hm : am_may mi 10 12 = true := by decide +kernel) : am_wp mi (pc, ls, .int (nI v) :: .ref 3 :: st) h Q := w_putf hf hm hx.o rfl rfl (k _ (xw_c2 hx v))
theorem xw_c7 {h0 h : am_H} {a b : Nat} {cc : Nat → Nat} {aa : Nat → Nat → Int32} {P : x_P} {D : x_D} (hx : XL h0 a b h cc aa P D) (v : Nat) : XL h0 a b (h.set (3) (.inr (10, (xoF cc).set 13 (.int (nI v))))) (uc cc 7 v) (aa) P D := hx.upd 10 (0) ⟨by decide, rfl⟩ (hx.2.1 _ _ (by decide) (by decide)) rfl ⟨rfl, rfl, rfl, rfl, rfl, rfl⟩ rfl rfl rfl (fun k i l e => match k, l, e with | 0, _, _ => rfl | 1, _, _ => rfl | 2, _, _ => rfl | 3, _, _ => rfl | 4, _, _ => rfl | 5, _, _ => rfl | 6, _, _ => rfl | 7, _, _ => rfl | 8, _, _ => rfl | 9, _, _ => rfl | 10, l, e => (e ⟨rfl, l.2⟩).elim | 11, _, _ => rfl | 12, _, _ => rfl | 13, _, _ => rfl | 14, _, _ => rfl | 15, _, _ => rfl | 16, _, _ => rfl | 17, _, _ => rfl | 18, _, _ => rfl | 19, _, _ => rfl | 20, _, _ => rfl | 21, _, _ => rfl | n + 22, l, _ => absurd l.1 (x_not22 n))
theorem x_pc7 {mi pc pc' q i0 : Nat} {z : Int} {ls : am_L} {st : List Value} {Q : Option Value → am_H → Prop} {h0 h : am_H} {a b : Nat} {cc : Nat → Nat} {aa : Nat → Nat → Int32} {P : x_P} {D : x_D} (hx : XL h0 a b h cc aa P D) (v : Nat) (hf : am_S mi pc pc' (.putfield i0, 10, 13, q, z)) (k : ∀ h, XL h0 a b h (uc cc 7 v) aa P D → am_wp mi (pc', ls, st) h Q) (hm : am_may mi 10 13 = true := by decide +kernel) : am_wp mi (pc, ls, .int (nI v) :: .ref 3 :: st) h Q := w_putf hf hm hx.o rfl rfl (k _ (xw_c7 hx v))
theorem xw_c16 {h0 h : am_H} {a b : Nat} {cc : Nat → Nat} {aa : Nat → Nat → Int32} {P : x_P} {D : x_D} (hx : XL h0 a b h cc aa P D) (v : Nat) : XL h0 a b (h.set (19) (.inr (1, [.ref 20, .ref 21, .int (nI v)]))) (uc cc 16 v) (aa) P D := hx.upd 15 (0) ⟨by decide, rfl⟩ (hx.2.1 _ _ (by decide) (by decide)) rfl ⟨rfl, rfl, rfl, rfl, rfl, rfl⟩ rfl rfl rfl (fun k i l e => match k, l, e with | 0, _, _ => rfl | 1, _, _ => rfl | 2, _, _ => rfl | 3, _, _ => rfl | 4, _, _ => rfl | 5, _, _ => rfl | 6, _, _ => rfl | 7, _, _ => rfl | 8, _, _ => rfl | 9, _, _ => rfl | 10, _, _ => rfl | 11, _, _ => rfl | 12, _, _ => rfl | 13, _, _ => rfl | 14, _, _ => rfl | 15, l, e => (e ⟨rfl, l.2⟩).elim | 16, _, _ => rfl | 17, _, _ => rfl | 18, _, _ => rfl | 19, _, _ => rfl | 20, _, _ => rfl | 21, _, _ => rfl | n + 22, l, _ => absurd l.1 (x_not22 n))
theorem x_pc16 {mi pc pc' q i0 : Nat} {z : Int} {ls : am_L} {st : List Value} {Q : Option Value → am_H → Prop} {h0 h : am_H} {a b : Nat} {cc : Nat → Nat} {aa : Nat → Nat → Int32} {P : x_P} {D : x_D} (hx : XL h0 a b h cc aa P D) (v : Nat) (hf : am_S mi pc pc' (.putfield i0, 1, 2, q, z)) (k : ∀ h, XL h0 a b h (uc cc 16 v) aa P D → am_wp mi (pc', ls, st) h Q) (hm : am_may mi 1 2 = true := by decide +kernel) : am_wp mi (pc, ls, .int (nI v) :: .ref 19 :: st) h Q := w_putf hf hm hx.bp rfl rfl (k _ (xw_c16 hx v))
theorem xw_c45 {h0 h : am_H} {a b : Nat} {cc : Nat → Nat} {aa : Nat → Nat → Int32} {P : x_P} {D : x_D} (hx : XL h0 a b h cc aa P D) (v : Nat) : XL h0 a b (h.set (22) (.inr (6, [.ref 23, .int (nI v), .ref (P 9 0), .int (nI D.2.2.1)]))) (uc cc 45 v) (aa) P D := hx.upd 18 (0) ⟨by decide, rfl⟩ (hx.2.1 _ _ (by decide) (by decide)) rfl ⟨rfl, rfl, rfl, rfl, rfl, rfl⟩ rfl rfl rfl (fun k i l e => match k, l, e with | 0, _, _ => rfl | 1, _, _ => rfl | 2, _, _ => rfl | 3, _, _ => rfl | 4, _, _ => rfl | 5, _, _ => rfl | 6, _, _ => rfl | 7, _, _ => rfl | 8, _, _ => rfl | 9, _, _ => rfl | 10, _, _ => rfl | 11, _, _ => rfl | 12, _, _ => rfl | 13, _, _ => rfl | 14, _, _ => rfl | 15, _, _ => rfl | 16, _, _ => rfl | 17, _, _ => rfl | 18, l, e => (e ⟨rfl, l.2⟩).elim | 19, _, _ => rfl | 20, _, _ => rfl | 21, _, _ => rfl | n + 22, l, _ => absurd l.1 (x_not22 n))
theorem x_pc45 {mi pc pc' q i0 : Nat} {z : Int} {ls : am_L} {st : List Value} {Q : Option Value → am_H → Prop} {h0 h : am_H} {a b : Nat} {cc : Nat → Nat} {aa : Nat → Nat → Int32} {P : x_P} {D : x_D} (hx : XL h0 a b h cc aa P D) (v : Nat) (hf : am_S mi pc pc' (.putfield i0, 6, 1, q, z)) (k : ∀ h, XL h0 a b h (uc cc 45 v) aa P D → am_wp mi (pc', ls, st) h Q) (hm : am_may mi 6 1 = true := by decide +kernel) : am_wp mi (pc, ls, .int (nI v) :: .ref 22 :: st) h Q := w_putf hf hm hx.rd rfl rfl (k _ (xw_c45 hx v))
theorem xw_a1 {h0 h : am_H} {a b : Nat} {cc : Nat → Nat} {aa : Nat → Nat → Int32} {P : x_P} {D : x_D} (hx : XL h0 a b h cc aa P D) (f : Nat → Int32) : XL h0 a b (h.set (26) (.inl (0, 6, .inl f))) (cc) (ua aa 1 f) P D := hx.upd 21 (0) ⟨by decide, rfl⟩ (hx.2.1 _ _ (by decide) (by decide)) rfl ⟨rfl, rfl, rfl, rfl, rfl, rfl⟩ rfl rfl rfl (fun k i l e => match k, l, e with | 0, _, _ => rfl | 1, _, _ => rfl | 2, _, _ => rfl | 3, _, _ => rfl | 4, _, _ => rfl | 5, _, _ => rfl | 6, _, _ => rfl | 7, _, _ => rfl | 8, _, _ => rfl | 9, _, _ => rfl | 10, _, _ => rfl | 11, _, _ => rfl | 12, _, _ => rfl | 13, _, _ => rfl | 14, _, _ => rfl | 15, _, _ => rfl | 16, _, _ => rfl | 17, _, _ => rfl | 18, _, _ => rfl | 19, _, _ => rfl | 20, _, _ => rfl | 21, l, e => (e ⟨rfl, l.2⟩).elim | n + 22, l, _ => absurd l.1 (x_not22 n))
theorem x_st1 {mi pc pc' q a0 b0 y : Nat} {z : Int} {ls : am_L} {st : List Value} {Q : Option Value → am_H → Prop} {h0 h : am_H} {a b : Nat} {cc : Nat → Nat} {aa : Nat → Nat → Int32} {P : x_P} {D : x_D} (hx : XL h0 a b h cc aa P D) {v : Int32} (hf : am_S mi pc pc' (.iastore, a0, b0, q, z)) (hj : y < 6) (k : ∀ h, XL h0 a b h cc (ua aa 1 (upd (aa 1) y v)) P D → am_wp mi (pc', ls, st) h Q) : am_wp mi (pc, ls, .int v :: .int (nI y) :: .ref 26 :: st) h Q := w_iastN hf hx.fc hj (by decide) (k _ (xw_a1 hx _))
theorem xw_a17 {h0 h : am_H} {a b : Nat} {cc : Nat → Nat} {aa : Nat → Nat → Int32} {P : x_P} {D : x_D} (hx : XL h0 a b h cc aa P D) (f : Nat → Int32) : XL h0 a b (h.set (21) (.inl (0, 16, .inl f))) (cc) (ua aa 17 f) P D := hx.upd 17 (0) ⟨by decide, rfl⟩ (hx.2.1 _ _ (by decide) (by decide)) rfl ⟨rfl, rfl, rfl, rfl, rfl, rfl⟩ rfl rfl rfl (fun k i l e => match k, l, e with | 0, _, _ => rfl | 1, _, _ => rfl | 2, _, _ => rfl | 3, _, _ => rfl | 4, _, _ => rfl | 5, _, _ => rfl | 6, _, _ => rfl | 7, _, _ => rfl | 8, _, _ => rfl | 9, _, _ => rfl | 10, _, _ => rfl | 11, _, _ => rfl | 12, _, _ => rfl | 13, _, _ => rfl | 14, _, _ => rfl | 15, _, _ => rfl | 16, _, _ => rfl | 17, l, e => (e ⟨rfl, l.2⟩).elim | 18, _, _ => rfl | 19, _, _ => rfl | 20, _, _ => rfl | 21, _, _ => rfl | n + 22, l, _ => absurd l.1 (x_not22 n))
theorem x_st17 {mi pc pc' q a0 b0 y : Nat} {z : Int} {ls : am_L} {st : List Value} {Q : Option Value → am_H → Prop} {h0 h : am_H} {a b : Nat} {cc : Nat → Nat} {aa : Nat → Nat → Int32} {P : x_P} {D : x_D} (hx : XL h0 a b h cc aa P D) {v : Int32} (hf : am_S mi pc pc' (.iastore, a0, b0, q, z)) (hj : y < 16) (k : ∀ h, XL h0 a b h cc (ua aa 17 (upd (aa 17) y v)) P D → am_wp mi (pc', ls, st) h Q) : am_wp mi (pc, ls, .int v :: .int (nI y) :: .ref 21 :: st) h Q := w_iastN hf hx.bl hj (by decide) (k _ (xw_a17 hx _))
theorem xw_a19 {h0 h : am_H} {a b : Nat} {cc : Nat → Nat} {aa : Nat → Nat → Int32} {P : x_P} {D : x_D} (hx : XL h0 a b h cc aa P D) (f : Nat → Int32) : XL h0 a b (h.set (25) (.inl (0, 6, .inl f))) (cc) (ua aa 19 f) P D := hx.upd 20 (0) ⟨by decide, rfl⟩ (hx.2.1 _ _ (by decide) (by decide)) rfl ⟨rfl, rfl, rfl, rfl, rfl, rfl⟩ rfl rfl rfl (fun k i l e => match k, l, e with | 0, _, _ => rfl | 1, _, _ => rfl | 2, _, _ => rfl | 3, _, _ => rfl | 4, _, _ => rfl | 5, _, _ => rfl | 6, _, _ => rfl | 7, _, _ => rfl | 8, _, _ => rfl | 9, _, _ => rfl | 10, _, _ => rfl | 11, _, _ => rfl | 12, _, _ => rfl | 13, _, _ => rfl | 14, _, _ => rfl | 15, _, _ => rfl | 16, _, _ => rfl | 17, _, _ => rfl | 18, _, _ => rfl | 19, _, _ => rfl | 20, l, e => (e ⟨rfl, l.2⟩).elim | 21, _, _ => rfl | n + 22, l, _ => absurd l.1 (x_not22 n))
theorem x_st19 {mi pc pc' q a0 b0 y : Nat} {z : Int} {ls : am_L} {st : List Value} {Q : Option Value → am_H → Prop} {h0 h : am_H} {a b : Nat} {cc : Nat → Nat} {aa : Nat → Nat → Int32} {P : x_P} {D : x_D} (hx : XL h0 a b h cc aa P D) {v : Int32} (hf : am_S mi pc pc' (.iastore, a0, b0, q, z)) (hj : y < 6) (k : ∀ h, XL h0 a b h cc (ua aa 19 (upd (aa 19) y v)) P D → am_wp mi (pc', ls, st) h Q) : am_wp mi (pc, ls, .int v :: .int (nI y) :: .ref 25 :: st) h Q := w_iastN hf hx.ra hj (by decide) (k _ (xw_a19 hx _))
theorem xw_a46 {h0 h : am_H} {a b : Nat} {cc : Nat → Nat} {aa : Nat → Nat → Int32} {P : x_P} {D : x_D} (hx : XL h0 a b h cc aa P D) (f : Nat → Int32) : XL h0 a b (h.set (23) (.inl (0, 10, .inl f))) (cc) (ua aa 46 f) P D := hx.upd 19 (0) ⟨by decide, rfl⟩ (hx.2.1 _ _ (by decide) (by decide)) rfl ⟨rfl, rfl, rfl, rfl, rfl, rfl⟩ rfl rfl rfl (fun k i l e => match k, l, e with | 0, _, _ => rfl | 1, _, _ => rfl | 2, _, _ => rfl | 3, _, _ => rfl | 4, _, _ => rfl | 5, _, _ => rfl | 6, _, _ => rfl | 7, _, _ => rfl | 8, _, _ => rfl | 9, _, _ => rfl | 10, _, _ => rfl | 11, _, _ => rfl | 12, _, _ => rfl | 13, _, _ => rfl | 14, _, _ => rfl | 15, _, _ => rfl | 16, _, _ => rfl | 17, _, _ => rfl | 18, _, _ => rfl | 19, l, e => (e ⟨rfl, l.2⟩).elim | 20, _, _ => rfl | 21, _, _ => rfl | n + 22, l, _ => absurd l.1 (x_not22 n))
theorem x_st46 {mi pc pc' q a0 b0 y : Nat} {z : Int} {ls : am_L} {st : List Value} {Q : Option Value → am_H → Prop} {h0 h : am_H} {a b : Nat} {cc : Nat → Nat} {aa : Nat → Nat → Int32} {P : x_P} {D : x_D} (hx : XL h0 a b h cc aa P D) {v : Int32} (hf : am_S mi pc pc' (.iastore, a0, b0, q, z)) (hj : y < 10) (k : ∀ h, XL h0 a b h cc (ua aa 46 (upd (aa 46) y v)) P D → am_wp mi (pc', ls, st) h Q) : am_wp mi (pc, ls, .int v :: .int (nI y) :: .ref 23 :: st) h Q := w_iastN hf hx.od hj (by decide) (k _ (xw_a46 hx _))
theorem xw_a18 {h0 h : am_H} {a b : Nat} {cc : Nat → Nat} {aa : Nat → Nat → Int32} {P : x_P} {D : x_D} (hx : XL h0 a b h cc aa P D) (f : Nat → Int32) : XL h0 a b (h.set (20) (.inl (1, 192, .inl f))) (cc) (ua aa 18 f) P D := hx.upd 16 (0) ⟨by decide, rfl⟩ (hx.2.1 _ _ (by decide) (by decide)) rfl ⟨rfl, rfl, rfl, rfl, rfl, rfl⟩ rfl rfl rfl (fun k i l e => match k, l, e with | 0, _, _ => rfl | 1, _, _ => rfl | 2, _, _ => rfl | 3, _, _ => rfl | 4, _, _ => rfl | 5, _, _ => rfl | 6, _, _ => rfl | 7, _, _ => rfl | 8, _, _ => rfl | 9, _, _ => rfl | 10, _, _ => rfl | 11, _, _ => rfl | 12, _, _ => rfl | 13, _, _ => rfl | 14, _, _ => rfl | 15, _, _ => rfl | 16, l, e => (e ⟨rfl, l.2⟩).elim | 17, _, _ => rfl | 18, _, _ => rfl | 19, _, _ => rfl | 20, _, _ => rfl | 21, _, _ => rfl | n + 22, l, _ => absurd l.1 (x_not22 n))
theorem x_st18 {mi pc pc' q a0 b0 y : Nat} {z : Int} {ls : am_L} {st : List Value} {Q : Option Value → am_H → Prop} {h0 h : am_H} {a b : Nat} {cc : Nat → Nat} {aa : Nat → Nat → Int32} {P : x_P} {D : x_D} (hx : XL h0 a b h cc aa P D) {v : Int32} (hf : am_S mi pc pc' (.bastore, a0, b0, q, z)) (hj : y < 192) (k : ∀ h, XL h0 a b h cc (ua aa 18 (upd (aa 18) y (am_nrw 1 v))) P D → am_wp mi (pc', ls, st) h Q) : am_wp mi (pc, ls, .int v :: .int (nI y) :: .ref 20 :: st) h Q := w_bastN hf hx.bs (Or.inl rfl) hj (by decide) (k _ (xw_a18 hx _))
theorem x_sz_o {aa : Nat → Nat → Int32} {s i : Nat} {v : Int32} (h : ¬ i = s) : x_sz (ua aa 13 (upd (aa 13) s v)) i = x_sz aa i := by
  show (if upd (aa 13) s v i < 0 then (-1 : Int32) else upd (aa 13) s v i) = _
  rw [x_up_n h]
  rfl
theorem x_sz_s {aa : Nat → Nat → Int32} {s : Nat} {v : Int32} : x_sz (ua aa 13 (upd (aa 13) s v)) s = if v < 0 then (-1 : Int32) else v := by
  show (if upd (aa 13) s v s < 0 then (-1 : Int32) else upd (aa 13) s v s) = _
  rw [pk_us]
theorem x_oth13 (cc : Nat → Nat) (aa : Nat → Nat → Int32) (P : x_P) (D : x_D) (f : Nat → Int32) (k i : Nat) (e : ¬ k = 13) : xcell cc (ua aa 13 f) P D k i = xcell cc aa P D k i := by
  unfold xcell
  split <;> first | rfl | exact absurd rfl e
theorem xw_sz {h0 h : am_H} {a b : Nat} {cc : Nat → Nat} {aa : Nat → Nat → Int32} {P : x_P} {D : x_D} (hx : XL h0 a b h cc aa P D) (s : Nat) (hs : s < 4) (v w : Int32) (hv : (if w < 0 then (-1 : Int32) else w) = v) : XL h0 a b (h.set (11 + 2 * s) (.inr (7, [.ref (12 + 2 * s), .int v]))) cc (ua aa 13 (upd (aa 13) s w)) P D := by
  refine hx.upd 13 s hs (hx.2.1 _ _ (by decide) (by decide)) rfl ⟨rfl, rfl, rfl, rfl, rfl, rfl⟩ rfl rfl ?_ (fun k i l e => ?_)
  · rw [x_c13, x_sz_s, hv]
  · by_cases d : k = 13
    · subst d
      rw [x_c13, x_c13, x_sz_o (fun d => e ⟨rfl, d⟩)]
    · exact x_oth13 cc aa P D _ k i d
theorem x_psz {mi pc pc' q i0 : Nat} {z : Int} {ls : am_L} {st : List Value} {Q : Option Value → am_H → Prop} {h0 h : am_H} {a b : Nat} {cc : Nat → Nat} {aa : Nat → Nat → Int32} {P : x_P} {D : x_D} (hx : XL h0 a b h cc aa P D) (s : Nat) (hs : s < 4) (v w : Int32) (hv : (if w < 0 then (-1 : Int32) else w) = v) (hf : am_S mi pc pc' (.putfield i0, 7, 1, q, z)) (k : ∀ h, XL h0 a b h cc (ua aa 13 (upd (aa 13) s w)) P D → am_wp mi (pc', ls, st) h Q) (hm : am_may mi 7 1 = true := by decide +kernel) : am_wp mi (pc, ls, .int v :: .ref (11 + 2 * s) :: st) h Q := w_putf hf hm (hx.sh s hs) rfl rfl (k _ (xw_sz hx s hs v w hv))
theorem xw_row {h0 h : am_H} {a b : Nat} {cc : Nat → Nat} {aa : Nat → Nat → Int32} {P : x_P} {D : x_D} (hx : XL h0 a b h cc aa P D) (s : Nat) (hs : s < 4) (f g : Nat → Int32) (hg : (fun k => if k < 80 then g (80 * s + k) else 0) = f) (ho : ∀ i, i < 4 → ¬ i = s → ∀ k, k < 80 → g (80 * i + k) = aa 14 (80 * i + k)) : XL h0 a b (h.set (12 + 2 * s) (.inl (1, 80, .inl f))) cc (ua aa 14 g) P D := by
  have hro : ∀ i, i < 4 → ¬ i = s → (fun k => if k < 80 then g (80 * i + k) else 0) = x_row aa i := by
    intro i hi hn
    funext k
    unfold x_row
    by_cases d : k < 80
    · rw [if_pos d, if_pos d, ho i hi hn k d]
    · rw [if_neg d, if_neg d]
  refine hx.upd 14 s hs (hx.2.1 _ _ (by decide) (by decide)) rfl ⟨rfl, rfl, rfl, rfl, rfl, rfl⟩ rfl rfl ?_ (fun k i l e => ?_)
  · show Sum.inl (1, 80, Sum.inl (fun k => if k < 80 then g (80 * s + k) else 0)) = _
    rw [hg]
  · exact match k, l, e with | 0, _, _ => rfl | 1, _, _ => rfl | 2, _, _ => rfl | 3, _, _ => rfl | 4, _, _ => rfl | 5, _, _ => rfl | 6, _, _ => rfl | 7, _, _ => rfl | 8, _, _ => rfl | 9, _, _ => rfl | 10, _, _ => rfl | 11, _, _ => rfl | 12, _, _ => rfl | 13, _, _ => rfl | 14, l, e => by show Sum.inl (1, 80, Sum.inl (fun k => if k < 80 then g (80 * i + k) else 0)) = Sum.inl (1, 80, Sum.inl (x_row aa i)); rw [hro i l (fun d => e ⟨rfl, d⟩)] | 15, _, _ => rfl | 16, _, _ => rfl | 17, _, _ => rfl | 18, _, _ => rfl | 19, _, _ => rfl | 20, _, _ => rfl | 21, _, _ => rfl | n + 22, l, _ => absurd l.1 (x_not22 n)
theorem xw_tb {h0 h : am_H} {a b : Nat} {cc : Nat → Nat} {aa : Nat → Nat → Int32} {P : x_P} {D : x_D} (hx : XL h0 a b h cc aa P D) (j : Nat) (hj : j < cc 20) (v : Int32) : XL h0 a b (h.set (P 2 j) (.inr (5, [.int (aa 21 j), .int (aa 22 j), .int (aa 23 j), .int (aa 24 j), .int (aa 25 j), .int (aa 26 j), .ref (P 6 j), .ref (P 7 j), .int v]))) cc (ua aa 27 (upd (aa 27) j v)) P D := by
  refine hx.upd 2 j hj rfl rfl ⟨rfl, rfl, rfl, rfl, rfl, rfl⟩ rfl rfl ?_ (fun k i l e => ?_)
  · show Sum.inr (5, [Value.int (aa 21 j), .int (aa 22 j), .int (aa 23 j), .int (aa 24 j), .int (aa 25 j), .int (aa 26 j), .ref (P 6 j), .ref (P 7 j), .int (upd (aa 27) j v j)]) = _
    rw [pk_us]
  · exact match k, l, e with | 0, _, _ => rfl | 1, _, _ => rfl | 2, l, e => by show Sum.inr (5, [Value.int (aa 21 i), .int (aa 22 i), .int (aa 23 i), .int (aa 24 i), .int (aa 25 i), .int (aa 26 i), .ref (P 6 i), .ref (P 7 i), .int (upd (aa 27) j v i)]) = _; rw [x_up_n (fun d => e ⟨rfl, d⟩)]; rfl | 3, _, _ => rfl | 4, _, _ => rfl | 5, _, _ => rfl | 6, _, _ => rfl | 7, _, _ => rfl | 8, _, _ => rfl | 9, _, _ => rfl | 10, _, _ => rfl | 11, _, _ => rfl | 12, _, _ => rfl | 13, _, _ => rfl | 14, _, _ => rfl | 15, _, _ => rfl | 16, _, _ => rfl | 17, _, _ => rfl | 18, _, _ => rfl | 19, _, _ => rfl | 20, _, _ => rfl | 21, _, _ => rfl | n + 22, l, _ => absurd l.1 (x_not22 n)
theorem xw_fr {h0 h : am_H} {a b : Nat} {cc : Nat → Nat} {aa : Nat → Nat → Int32} {P : x_P} {D : x_D} (hx : XL h0 a b h cc aa P D) (c : Nat) (hc : c < cc 28) (v : Int32) : XL h0 a b (h.set (P 3 c) (.inr (2, [.int (aa 29 c), .int v]))) cc (ua aa 30 (upd (aa 30) c v)) P D := by
  refine hx.upd 3 c hc rfl rfl ⟨rfl, rfl, rfl, rfl, rfl, rfl⟩ rfl rfl ?_ (fun k i l e => ?_)
  · show Sum.inr (2, [Value.int (aa 29 c), .int (upd (aa 30) c v c)]) = _
    rw [pk_us]
  · exact match k, l, e with | 0, _, _ => rfl | 1, _, _ => rfl | 2, _, _ => rfl | 3, l, e => by show Sum.inr (2, [Value.int (aa 29 i), .int (upd (aa 30) c v i)]) = _; rw [x_up_n (fun d => e ⟨rfl, d⟩)]; rfl | 4, _, _ => rfl | 5, _, _ => rfl | 6, _, _ => rfl | 7, _, _ => rfl | 8, _, _ => rfl | 9, _, _ => rfl | 10, _, _ => rfl | 11, _, _ => rfl | 12, _, _ => rfl | 13, _, _ => rfl | 14, _, _ => rfl | 15, _, _ => rfl | 16, _, _ => rfl | 17, _, _ => rfl | 18, _, _ => rfl | 19, _, _ => rfl | 20, _, _ => rfl | 21, _, _ => rfl | n + 22, l, _ => absurd l.1 (x_not22 n)
theorem x_ptb {mi pc pc' q i0 : Nat} {z : Int} {ls : am_L} {st : List Value} {Q : Option Value → am_H → Prop} {h0 h : am_H} {a b : Nat} {cc : Nat → Nat} {aa : Nat → Nat → Int32} {P : x_P} {D : x_D} (hx : XL h0 a b h cc aa P D) (j : Nat) (hj : j < cc 20) (hf : am_S mi pc pc' (.putfield i0, 5, 8, q, z)) (k : ∀ h, XL h0 a b h cc (ua aa 27 (upd (aa 27) j 1)) P D → am_wp mi (pc', ls, st) h Q) (hm : am_may mi 5 8 = true := by decide +kernel) : am_wp mi (pc, ls, .int 1 :: .ref (P 2 j) :: st) h Q := w_putf hf hm (hx.no j hj) rfl rfl (k _ (xw_tb hx j hj 1))
theorem x_pfr {mi pc pc' q i0 : Nat} {z : Int} {ls : am_L} {st : List Value} {Q : Option Value → am_H → Prop} {h0 h : am_H} {a b : Nat} {cc : Nat → Nat} {aa : Nat → Nat → Int32} {P : x_P} {D : x_D} (hx : XL h0 a b h cc aa P D) (c : Nat) (hc : c < cc 28) (v : Int32) (hf : am_S mi pc pc' (.putfield i0, 2, 1, q, z)) (k : ∀ h, XL h0 a b h cc (ua aa 30 (upd (aa 30) c v)) P D → am_wp mi (pc', ls, st) h Q) (hm : am_may mi 2 1 = true := by decide +kernel) : am_wp mi (pc, ls, .int v :: .ref (P 3 c) :: st) h Q := w_putf hf hm (hx.cr c hc) rfl rfl (k _ (xw_fr hx c hc v))
theorem xq_end {h0 h : am_H} {a b : Nat} {S : x_A} {x : Int32} {cc : Nat → Nat} {aa : Nat → Nat → Int32} {P : x_P} {D : x_D} (ha : a ≤ 8) (hb : b ≤ 14000) (e : S = (x, cc, aa)) (hx : XL h0 a b h cc aa P D) : xQ h0 S (some (.int x)) h := by
  subst e
  exact ⟨rfl, P, D, hx.1.cg ha hb (fun k i l => ⟨l, rfl⟩), hx.2⟩
