/-! the class's cries: a new one -/
theorem x_cf_old {aa aa' : Nat → Nat → Int32} {n : Nat} (h : ∀ i, i < n → aa' 37 i = aa 37 i ∧ aa' 32 i = aa 32 i ∧ aa' 34 i = aa 34 i ∧ aa' 35 i = aa 35 i) (x y : Int32) : ∀ m, m ≤ n → x_cn aa' x y m = x_cn aa x y m ∧ x_ld aa' x y m = x_ld aa x y m
  | 0, _ => ⟨rfl, rfl⟩
  | m + 1, hm => by
    have ih := x_cf_old h x y m (by omega)
    obtain ⟨e1, e2, e3, e4⟩ := h m (by omega)
    have ec : x_cf aa' x y m = x_cf aa x y m := by
      unfold x_cf
      rw [e1, e2, e3]
    constructor
    · show x_cn aa' x y m + am_bi (x_cf aa' x y m) = x_cn aa x y m + am_bi (x_cf aa x y m)
      rw [ih.1, ec]
    · show x_ldf aa' x y m (x_ld aa' x y m) = x_ldf aa x y m (x_ld aa x y m)
      unfold x_ldf
      rw [ih.2, ec, e4]
section AMY
variable {cc : Nat → Nat} {aa : Nat → Nat → Int32} {j c q m : Nat} {cb : Bool}
theorem x_cf6 (i y : Nat) (hi : i < 40) (hj : j < 40) (hq : q < 10) (hy : y < 10) : x_cf (ua (ua (ua (ua (ua (ua (aa) 32 (upd (aa 32) (cc 31) (nI j))) 33 (upd (aa 33) (cc 31) (nI c))) 34 (upd (aa 34) (cc 31) (nI q))) 35 (upd (aa 35) (cc 31) (nI (cc 2)))) 36 (upd (aa 36) (cc 31) (nI m))) 37 (upd (aa 37) (cc 31) (am_bi cb))) (nI i) (nI y) (cc 31) = (cb && decide (i = j) && decide (y = q)) := by
  show (decide (upd (aa 37) (cc 31) (am_bi cb) (cc 31) = 1) && decide (upd (aa 32) (cc 31) (nI j) (cc 31) = nI i) && decide (upd (aa 34) (cc 31) (nI q) (cc 31) = nI y)) = _
  rw [pk_us, pk_us, pk_us]
  congr 1
  · congr 1
    · cases cb <;> rfl
    · apply decide_eq_decide.mpr
      rw [nI_eq (by omega) (by omega)]
      exact eq_comm
  · apply decide_eq_decide.mpr
    rw [nI_eq (by omega) (by omega)]
    exact eq_comm
theorem x_old6 : ∀ i, i < cc 31 → (ua (ua (ua (ua (ua (ua (aa) 32 (upd (aa 32) (cc 31) (nI j))) 33 (upd (aa 33) (cc 31) (nI c))) 34 (upd (aa 34) (cc 31) (nI q))) 35 (upd (aa 35) (cc 31) (nI (cc 2)))) 36 (upd (aa 36) (cc 31) (nI m))) 37 (upd (aa 37) (cc 31) (am_bi cb))) 37 i = aa 37 i ∧ (ua (ua (ua (ua (ua (ua (aa) 32 (upd (aa 32) (cc 31) (nI j))) 33 (upd (aa 33) (cc 31) (nI c))) 34 (upd (aa 34) (cc 31) (nI q))) 35 (upd (aa 35) (cc 31) (nI (cc 2)))) 36 (upd (aa 36) (cc 31) (nI m))) 37 (upd (aa 37) (cc 31) (am_bi cb))) 32 i = aa 32 i ∧ (ua (ua (ua (ua (ua (ua (aa) 32 (upd (aa 32) (cc 31) (nI j))) 33 (upd (aa 33) (cc 31) (nI c))) 34 (upd (aa 34) (cc 31) (nI q))) 35 (upd (aa 35) (cc 31) (nI (cc 2)))) 36 (upd (aa 36) (cc 31) (nI m))) 37 (upd (aa 37) (cc 31) (am_bi cb))) 34 i = aa 34 i ∧ (ua (ua (ua (ua (ua (ua (aa) 32 (upd (aa 32) (cc 31) (nI j))) 33 (upd (aa 33) (cc 31) (nI c))) 34 (upd (aa 34) (cc 31) (nI q))) 35 (upd (aa 35) (cc 31) (nI (cc 2)))) 36 (upd (aa 36) (cc 31) (nI m))) 37 (upd (aa 37) (cc 31) (am_bi cb))) 35 i = aa 35 i := fun i hi => ⟨x_up_n (by omega), x_up_n (by omega), x_up_n (by omega), x_up_n (by omega)⟩
theorem x_cnr6 (i : Nat) (hi : i < 40) (hj : j < 40) (hq : q < 10) : x_cnr (uc cc 31 (cc 31 + 1)) (ua (ua (ua (ua (ua (ua (aa) 32 (upd (aa 32) (cc 31) (nI j))) 33 (upd (aa 33) (cc 31) (nI c))) 34 (upd (aa 34) (cc 31) (nI q))) 35 (upd (aa 35) (cc 31) (nI (cc 2)))) 36 (upd (aa 36) (cc 31) (nI m))) 37 (upd (aa 37) (cc 31) (am_bi cb))) i = if cb = true ∧ i = j then upd (x_cnr cc aa i) q (x_cnr cc aa i q + 1) else x_cnr cc aa i := by
  funext y
  show (if y < 10 then x_cn (ua (ua (ua (ua (ua (ua (aa) 32 (upd (aa 32) (cc 31) (nI j))) 33 (upd (aa 33) (cc 31) (nI c))) 34 (upd (aa 34) (cc 31) (nI q))) 35 (upd (aa 35) (cc 31) (nI (cc 2)))) 36 (upd (aa 36) (cc 31) (nI m))) 37 (upd (aa 37) (cc 31) (am_bi cb))) (nI i) (nI y) (cc 31) + am_bi (x_cf (ua (ua (ua (ua (ua (ua (aa) 32 (upd (aa 32) (cc 31) (nI j))) 33 (upd (aa 33) (cc 31) (nI c))) 34 (upd (aa 34) (cc 31) (nI q))) 35 (upd (aa 35) (cc 31) (nI (cc 2)))) 36 (upd (aa 36) (cc 31) (nI m))) 37 (upd (aa 37) (cc 31) (am_bi cb))) (nI i) (nI y) (cc 31)) else 0) = _
  by_cases hy : y < 10
  · rw [if_pos hy, (x_cf_old x_old6 (nI i) (nI y) (cc 31) (Nat.le_refl _)).1, x_cf6 i y hi hj hq hy]
    by_cases e : cb = true ∧ i = j
    · rw [if_pos e, e.1, decide_eq_true e.2]
      by_cases d : y = q
      · subst d
        rw [pk_us, decide_eq_true rfl]
        show _ = (if y < 10 then _ else _) + 1
        rw [if_pos hy]
        rfl
      · rw [x_up_n d, decide_eq_false d]
        show _ + am_bi false = (if y < 10 then _ else _)
        rw [if_pos hy]
        exact Int32.add_zero _
    · rw [if_neg e]
      have : (cb && decide (i = j) && decide (y = q)) = false := by
        cases cb with
        | false => rfl
        | true => rw [decide_eq_false (fun d => e ⟨rfl, d⟩)]; rfl
      rw [this]
      show _ + am_bi false = (if y < 10 then _ else _)
      rw [if_pos hy]
      exact Int32.add_zero _
  · rw [if_neg hy]
    split
    · rw [x_up_n (by omega)]
      exact (if_neg hy).symm
    · exact (if_neg hy).symm
theorem x_ldr6 (i : Nat) (hi : i < 40) (hj : j < 40) (hq : q < 10) : x_ldr (uc cc 31 (cc 31 + 1)) (ua (ua (ua (ua (ua (ua (aa) 32 (upd (aa 32) (cc 31) (nI j))) 33 (upd (aa 33) (cc 31) (nI c))) 34 (upd (aa 34) (cc 31) (nI q))) 35 (upd (aa 35) (cc 31) (nI (cc 2)))) 36 (upd (aa 36) (cc 31) (nI m))) 37 (upd (aa 37) (cc 31) (am_bi cb))) i = if cb = true ∧ i = j then upd (x_ldr cc aa i) q (nI (cc 2)) else x_ldr cc aa i := by
  funext y
  show (if y < 10 then x_ldf (ua (ua (ua (ua (ua (ua (aa) 32 (upd (aa 32) (cc 31) (nI j))) 33 (upd (aa 33) (cc 31) (nI c))) 34 (upd (aa 34) (cc 31) (nI q))) 35 (upd (aa 35) (cc 31) (nI (cc 2)))) 36 (upd (aa 36) (cc 31) (nI m))) 37 (upd (aa 37) (cc 31) (am_bi cb))) (nI i) (nI y) (cc 31) (x_ld (ua (ua (ua (ua (ua (ua (aa) 32 (upd (aa 32) (cc 31) (nI j))) 33 (upd (aa 33) (cc 31) (nI c))) 34 (upd (aa 34) (cc 31) (nI q))) 35 (upd (aa 35) (cc 31) (nI (cc 2)))) 36 (upd (aa 36) (cc 31) (nI m))) 37 (upd (aa 37) (cc 31) (am_bi cb))) (nI i) (nI y) (cc 31)) else 0) = _
  by_cases hy : y < 10
  · unfold x_ldf
    rw [if_pos hy, (x_cf_old x_old6 (nI i) (nI y) (cc 31) (Nat.le_refl _)).2, x_cf6 i y hi hj hq hy]
    by_cases e : cb = true ∧ i = j
    · rw [if_pos e, e.1, decide_eq_true e.2]
      by_cases d : y = q
      · subst d
        rw [pk_us, decide_eq_true rfl, if_pos (show (true && true && true) = true from rfl)]
        show upd (aa 35) (cc 31) (nI (cc 2)) (cc 31) = _
        rw [pk_us]
      · rw [x_up_n d, decide_eq_false d, if_neg (by decide)]
        show _ = (if y < 10 then _ else _)
        rw [if_pos hy]
    · rw [if_neg e]
      have : (cb && decide (i = j) && decide (y = q)) = false := by
        cases cb with
        | false => rfl
        | true => rw [decide_eq_false (fun d => e ⟨rfl, d⟩)]; rfl
      rw [this, if_neg (by decide)]
      show _ = (if y < 10 then _ else _)
      rw [if_pos hy]
  · rw [if_neg hy]
    split
    · rw [x_up_n (by omega)]
      exact (if_neg hy).symm
    · exact (if_neg hy).symm
end AMY
theorem c16 {h0 h : am_H} {a b : Nat} {cc : Nat → Nat} {aa : Nat → Nat → Int32} {P : x_P} {D : x_D} (hx : XL h0 a b h cc aa P D) (j q : Nat) (hj : j < cc 20) (hq : q < 10) (t : Int32) : am_ev 16 [.ref (P 2 j), .int (nI q), .int t] h (fun v h1 => v = none ∧ XG h0 a b h1 (xlive cc D) (u2 (u2 (xcell cc aa P D) 6 j (.inl (0, 10, .inl (upd (x_cnr cc aa j) q (x_cnr cc aa j q + 1))))) 7 j (.inl (0, 10, .inl (upd (x_ldr cc aa j) q t)))) P) := by
  show am_wp _ (_, [_, _, _], _) _ _
  refine w_aload_n s16_0 rfl ?_
  refine w_getf s16_1 (hx.no (j) (by omega)) rfl ?_
  refine w_iload_n s16_4 rfl ?_
  refine w_dup2_ir s16_5 ?_
  refine w_ialdN (y := q) s16_6 (hx.ct (j) (by omega)) hq (by decide) ?_
  refine w_iconst (v := 1) s16_7 rfl ?_
  refine w_iadd s16_8 rfl ?_
  refine w_iastN (y := q) s16_9 (hx.ct j hj) hq (by decide) ?_
  have g1 := hx.1.st (k := 6) (i := j) (c := .inl (0, 10, .inl (upd (x_cnr cc aa j) q (x_cnr cc aa j q + 1)))) hj rfl
  have hno : (h.set (P 6 j) (.inl (0, 10, .inl (upd (x_cnr cc aa j) q (x_cnr cc aa j q + 1)))))[P 2 j]? = _ := (g1.at (k := 2) (i := j) hj).trans (congrArg some (u2_k _ _ (by decide)))
  have hld : (h.set (P 6 j) (.inl (0, 10, .inl (upd (x_cnr cc aa j) q (x_cnr cc aa j q + 1)))))[P 7 j]? = _ := (g1.at (k := 7) (i := j) hj).trans (congrArg some (u2_k _ _ (by decide)))
  refine w_aload_n s16_10 rfl ?_
  refine w_getf s16_11 hno rfl ?_
  refine w_iload_n s16_14 rfl ?_
  refine w_iload_n s16_15 rfl ?_
  refine w_iastN (y := q) s16_16 hld hq (by decide) ?_
  have g2 := g1.st (k := 7) (i := j) (c := .inl (0, 10, .inl (upd (x_ldr cc aa j) q t))) hj (by rw [u2_k _ _ (by decide)]; rfl)
  refine w_vret s16_17 rk16 ?_
  exact ⟨rfl, g2⟩
/-- the world between a cry's counting and its keeping -/
def XC (h0 h : am_H) (cc : Nat → Nat) (aa : Nat → Nat → Int32) (P : x_P) (D : x_D) (aa' : Nat → Nat → Int32) (C : Nat → Nat → am_C) : Prop := XG h0 0 0 h (xlive cc D) C P ∧ (∀ k i, k ≠ 6 → k ≠ 7 → C k i = xcell cc aa P D k i) ∧ (∀ i, i < cc 20 → C 6 i = .inl (0, 10, .inl (x_cnr (uc cc 31 (cc 31 + 1)) aa' i))) ∧ (∀ i, i < cc 20 → C 7 i = .inl (0, 10, .inl (x_ldr (uc cc 31 (cc 31 + 1)) aa' i)))
theorem x_cc_f {h0 h : am_H} {cc : Nat → Nat} {aa : Nat → Nat → Int32} {P : x_P} {D : x_D} {j c q m : Nat} (n20 : cc 20 ≤ 40) (hx : XL h0 0 0 h cc aa P D) (hj : j < cc 20) (hq : q < 10) : XC h0 h cc aa P D (ua (ua (ua (ua (ua (ua (aa) 32 (upd (aa 32) (cc 31) (nI j))) 33 (upd (aa 33) (cc 31) (nI c))) 34 (upd (aa 34) (cc 31) (nI q))) 35 (upd (aa 35) (cc 31) (nI (cc 2)))) 36 (upd (aa 36) (cc 31) (nI m))) 37 (upd (aa 37) (cc 31) (am_bi false))) (xcell cc aa P D) := by
  refine ⟨hx.1, fun k i _ _ => rfl, fun i hi => ?_, fun i hi => ?_⟩
  · rw [x_cnr6 i (by omega) (by omega) hq, if_neg (fun e => by cases e.1)]
    rfl
  · rw [x_ldr6 i (by omega) (by omega) hq, if_neg (fun e => by cases e.1)]
    rfl
theorem x_cc_t {h0 h : am_H} {cc : Nat → Nat} {aa : Nat → Nat → Int32} {P : x_P} {D : x_D} {j c q m : Nat} (n20 : cc 20 ≤ 40) (hj : j < cc 20) (hq : q < 10) (g : XG h0 0 0 h (xlive cc D) (u2 (u2 (xcell cc aa P D) 6 j (.inl (0, 10, .inl (upd (x_cnr cc aa j) q (x_cnr cc aa j q + 1))))) 7 j (.inl (0, 10, .inl (upd (x_ldr cc aa j) q (nI (cc 2)))))) P) : XC h0 h cc aa P D (ua (ua (ua (ua (ua (ua (aa) 32 (upd (aa 32) (cc 31) (nI j))) 33 (upd (aa 33) (cc 31) (nI c))) 34 (upd (aa 34) (cc 31) (nI q))) 35 (upd (aa 35) (cc 31) (nI (cc 2)))) 36 (upd (aa 36) (cc 31) (nI m))) 37 (upd (aa 37) (cc 31) (am_bi true))) (u2 (u2 (xcell cc aa P D) 6 j (.inl (0, 10, .inl (upd (x_cnr cc aa j) q (x_cnr cc aa j q + 1))))) 7 j (.inl (0, 10, .inl (upd (x_ldr cc aa j) q (nI (cc 2)))))) := by
  refine ⟨g, fun k i h6 h7 => by rw [u2_k _ _ h7, u2_k _ _ h6], fun i hi => ?_, fun i hi => ?_⟩
  · rw [x_cnr6 i (by omega) (by omega) hq, u2_k _ _ (by decide)]
    by_cases e : i = j
    · subst e
      rw [u2_s, if_pos ⟨rfl, rfl⟩]
    · rw [u2_i _ _ e, if_neg (fun d => e d.2)]
      rfl
  · rw [x_ldr6 i (by omega) (by omega) hq]
    by_cases e : i = j
    · subst e
      rw [u2_s, if_pos ⟨rfl, rfl⟩]
    · rw [u2_i _ _ e, u2_k _ _ (by decide), if_neg (fun d => e d.2)]
      rfl
theorem XC.o {h0 h : am_H} {cc : Nat → Nat} {aa aa' : Nat → Nat → Int32} {P : x_P} {D : x_D} {C : Nat → Nat → am_C} (x : XC h0 h cc aa P D aa' C) (hS : XS cc aa P D) : h[3]? = some (.inr (10, xoF cc)) := by
  have := x.1.at (k := 10) (i := 0) ⟨by decide, rfl⟩
  rwa [x.2.1 10 0 (by decide) (by decide), hS.1 10 0 (by decide) (by decide)] at this
theorem XC.l {h0 h : am_H} {cc : Nat → Nat} {aa aa' : Nat → Nat → Int32} {P : x_P} {D : x_D} {C : Nat → Nat → am_C} (x : XC h0 h cc aa P D aa' C) (hS : XS cc aa P D) : h[8]? = some (.inr (0, [.int (D.1 4), .ref (xb P D 4), .int (nI (cc 31))])) := by
  have := x.1.at (k := 11) (i := 4) (show 4 < 6 by decide)
  rwa [x.2.1 11 4 (by decide) (by decide), hS.1 11 4 (by decide) (by decide)] at this
theorem x_add_cy {h0 h : am_H} {cc : Nat → Nat} {aa : Nat → Nat → Int32} {P : x_P} {D : x_D} {C : Nat → Nat → am_C} {j c q m : Nat} {cb : Bool} (x : XC h0 h cc aa P D (ua (ua (ua (ua (ua (ua (aa) 32 (upd (aa 32) (cc 31) (nI j))) 33 (upd (aa 33) (cc 31) (nI c))) 34 (upd (aa 34) (cc 31) (nI q))) 35 (upd (aa 35) (cc 31) (nI (cc 2)))) 36 (upd (aa 36) (cc 31) (nI m))) 37 (upd (aa 37) (cc 31) (am_bi cb))) C) (hS : XS cc aa P D) (hn : cc 31 ≤ 399) : am_ev 186 [.ref 8, .ref h.length] (h ++ [.inr (3, [.int (nI j), .int (nI c), .int (nI q), .int (nI (cc 2)), .int (nI m), .int (am_bi cb)])]) (fun v h1 => v = some (.int 1) ∧ ∃ P2 D2, (∀ k i, k ≠ 8 → ¬ (k = 4 ∧ i = cc 31) → P2 k i = P k i) ∧ XL h0 2 606 h1 (uc cc 31 (cc 31 + 1)) (ua (ua (ua (ua (ua (ua (aa) 32 (upd (aa 32) (cc 31) (nI j))) 33 (upd (aa 33) (cc 31) (nI c))) 34 (upd (aa 34) (cc 31) (nI q))) 35 (upd (aa 35) (cc 31) (nI (cc 2)))) 36 (upd (aa 36) (cc 31) (nI m))) 37 (upd (aa 37) (cc 31) (am_bi cb))) P2 D2) := by
  obtain ⟨gx, xo, x6, x7⟩ := x
  have g := gx.nw 4 (cc 31) (.inr (3, [.int (nI j), .int (nI c), .int (nI q), .int (nI (cc 2)), .int (nI m), .int (am_bi cb)]))
  have hpo : ∀ k i, ¬ (k = 4 ∧ i = cc 31) → (u2 P 4 (cc 31) h.length) k i = P k i := fun k i e => if_neg e
  have hco : ∀ k i, ¬ (k = 4 ∧ i = cc 31) → u2 C 4 (cc 31) (.inr (3, [.int (nI j), .int (nI c), .int (nI q), .int (nI (cc 2)), .int (nI m), .int (am_bi cb)])) k i = C k i := fun k i e => if_neg e
  have w := x_add (cc := cc) (cc' := uc cc 31 (cc 31 + 1)) (aa' := ua (ua (ua (ua (ua (ua (aa) 32 (upd (aa 32) (cc 31) (nI j))) 33 (upd (aa 33) (cc 31) (nI c))) 34 (upd (aa 34) (cc 31) (nI q))) 35 (upd (aa 35) (cc 31) (nI (cc 2)))) 36 (upd (aa 36) (cc 31) (nI m))) 37 (upd (aa 37) (cc 31) (am_bi cb))) (D := D) (q := 4) (n := cc 31) (ci := 3) (fs := [.int (nI j), .int (nI c), .int (nI q), .int (nI (cc 2)), .int (nI m), .int (am_bi cb)]) g (by decide) (fun k i h1 h2 => by rw [hpo k i (by omega)]; exact hS.1 k i h1 h2) hS.2.1 rfl hn (fun i hi => Or.inr hi) (fun i hi => ?_) (fun i hi h8 => ⟨Or.inr ⟨hi, h8⟩, ?_⟩) (fun i hi => ⟨Or.inr hi, ?_⟩) (Or.inl ⟨rfl, rfl⟩) (u2_s _ _ _ _) (by decide) rfl (fun i hi6 hi => ?_) (fun D' k i lk k8 => ?_) (fun P2 D2 k i hP2 hD2 lk k8 k11 => ?_) (x_tab_cg hS.2.2 rfl rfl rfl)
  · rw [u2_s] at w
    exact am_wp.mp w (fun v h' ⟨e, P', D', hP', hx'⟩ => ⟨e, P', D', fun k i k8 n4 => (hP' k i k8).trans (hpo k i n4), hx'⟩)
  · rw [hco 11 i (by omega), xo 11 i (by decide) (by decide)]
    show Sum.inr (0, [Value.int (D.1 i), Value.ref (if D.2.1 i = 0 then 1 else P 8 i), Value.int (nI (xn cc i))]) = Sum.inr (0, [Value.int (D.1 i), Value.ref (if D.2.1 i = 0 then 1 else (u2 P 4 (cc 31) h.length) 8 i), Value.int (nI (xn cc i))])
    rw [hpo 8 i (by omega)]
  · rw [hco 8 i (by omega), xo 8 i (by decide) (by decide)]
    show Sum.inl (3, D.2.1 i, Sum.inr (Sum.inr (Sum.inr (Sum.inr (x_els cc P i))))) = _
    rw [show x_els cc P i = x_els cc (u2 P 4 (cc 31) h.length) i from ?_]
    funext y
    unfold x_els
    by_cases d : y < xn cc i
    · rw [if_pos d, if_pos d, hpo i y (fun e => by rw [e.1] at d; have d : y < cc 31 := d; omega)]
    · rw [if_neg d, if_neg d]
  · rw [hco 4 i (by omega), xo 4 i (by decide) (by decide)]
    exact ⟨3, _, rfl, by decide⟩
  · exact match i, hi6, hi with | 0, _, _ => rfl | 1, _, _ => rfl | 2, _, _ => rfl | 3, _, _ => rfl | 4, _, hi => absurd rfl hi | 5, _, _ => rfl | _ + 6, h6, _ => absurd h6 (by omega)
  · exact match k, lk, k8 with | 0, l, _ => Or.inr l | 1, l, _ => Or.inr l | 2, l, _ => Or.inr l | 3, l, _ => Or.inr l | 4, l, _ => (Nat.lt_succ_iff_lt_or_eq.mp (show i < cc 31 + 1 from l)).elim Or.inr (fun e => Or.inl ⟨rfl, e⟩) | 5, l, _ => Or.inr l | 6, l, _ => Or.inr l | 7, l, _ => Or.inr l | 8, _, e => absurd rfl e | 9, l, _ => Or.inr l | 10, l, _ => Or.inr l | 11, l, _ => Or.inr l | 12, l, _ => Or.inr l | 13, l, _ => Or.inr l | 14, l, _ => Or.inr l | 15, l, _ => Or.inr l | 16, l, _ => Or.inr l | 17, l, _ => Or.inr l | 18, l, _ => Or.inr l | 19, l, _ => Or.inr l | 20, l, _ => Or.inr l | 21, l, _ => Or.inr l | _ + 22, l, _ => Or.inr l
  · by_cases n4 : k = 4 ∧ i = cc 31
    · obtain ⟨rfl, rfl⟩ := n4
      rw [u2_s]
      show Sum.inr (3, [Value.int (upd (aa 32) (cc 31) (nI j) (cc 31)), Value.int (upd (aa 33) (cc 31) (nI c) (cc 31)), Value.int (upd (aa 34) (cc 31) (nI q) (cc 31)), Value.int (upd (aa 35) (cc 31) (nI (cc 2)) (cc 31)), Value.int (upd (aa 36) (cc 31) (nI m) (cc 31)), Value.int (upd (aa 37) (cc 31) (am_bi cb) (cc 31))]) = _
      simp only [pk_us]
    · rw [hco k i n4]
      have h6 : P2 6 i = P 6 i := by rw [hP2 6 i (by decide), hpo 6 i (by omega)]
      have h7 : P2 7 i = P 7 i := by rw [hP2 7 i (by decide), hpo 7 i (by omega)]
      have h9 : P2 9 0 = P 9 0 := by rw [hP2 9 0 (by decide), hpo 9 0 (by omega)]
      by_cases k6 : k = 6
      · subst k6
        rw [x6 i lk]
        rfl
      · by_cases k7 : k = 7
        · subst k7
          rw [x7 i lk]
          rfl
        · rw [xo k i k6 k7]
          exact match k, lk, k8, k11, n4, k6, k7 with | 0, _, _, _, _, _, _ => rfl | 1, _, _, _, _, _, _ => rfl | 2, _, _, _, _, _, _ => by show Sum.inr (5, [Value.int (aa 21 i), Value.int (aa 22 i), Value.int (aa 23 i), Value.int (aa 24 i), Value.int (aa 25 i), Value.int (aa 26 i), Value.ref (P2 6 i), Value.ref (P2 7 i), Value.int (aa 27 i)]) = _; rw [h6, h7]; rfl | 3, _, _, _, _, _, _ => rfl | 4, l, _, _, n4, _, _ => by have hni : ¬ i = cc 31 := fun e => n4 ⟨rfl, e⟩; show Sum.inr (3, [Value.int (upd (aa 32) (cc 31) (nI j) i), Value.int (upd (aa 33) (cc 31) (nI c) i), Value.int (upd (aa 34) (cc 31) (nI q) i), Value.int (upd (aa 35) (cc 31) (nI (cc 2)) i), Value.int (upd (aa 36) (cc 31) (nI m) i), Value.int (upd (aa 37) (cc 31) (am_bi cb) i)]) = _; simp only [x_up_n hni]; rfl | 5, _, _, _, _, _, _ => rfl | 6, _, _, _, _, e, _ => absurd rfl e | 7, _, _, _, _, _, e => absurd rfl e | 8, _, e, _, _, _, _ => absurd rfl e | 9, _, _, _, _, _, _ => by show Sum.inl (0, D2.2.2.2.1, Sum.inl D2.2.2.2.2) = _; rw [hD2]; rfl | 10, _, _, _, _, _, _ => rfl | 11, _, _, e, _, _, _ => absurd rfl e | 12, _, _, _, _, _, _ => rfl | 13, _, _, _, _, _, _ => rfl | 14, _, _, _, _, _, _ => rfl | 15, _, _, _, _, _, _ => rfl | 16, _, _, _, _, _, _ => rfl | 17, _, _, _, _, _, _ => rfl | 18, _, _, _, _, _, _ => by show Sum.inr (6, [Value.ref 23, Value.int (nI (cc 45)), Value.ref (P2 9 0), Value.int (nI D2.2.2.1)]) = _; rw [h9, hD2]; rfl | 19, _, _, _, _, _, _ => rfl | 20, _, _, _, _, _, _ => rfl | 21, _, _, _, _, _, _ => rfl | n + 22, l, _, _, _, _, _ => absurd l.1 (x_not22 n)
theorem xw_cat {h0 h : am_H} {a b : Nat} {cc : Nat → Nat} {aa : Nat → Nat → Int32} {P : x_P} {D : x_D} (hx : XL h0 a b h cc aa P D) (c : Nat) (hc : c < cc 28) (v : Int32) : XL h0 a b (h.set (P 3 c) (.inr (2, [.int v, .int (aa 30 c)]))) cc (ua aa 29 (upd (aa 29) c v)) P D := by
  refine hx.upd 3 c hc rfl rfl ⟨rfl, rfl, rfl, rfl, rfl, rfl⟩ rfl rfl ?_ (fun k i l e => ?_)
  · show Sum.inr (2, [Value.int (upd (aa 29) c v c), .int (aa 30 c)]) = _
    rw [pk_us]
  · exact match k, l, e with | 0, _, _ => rfl | 1, _, _ => rfl | 2, _, _ => rfl | 3, l, e => by show Sum.inr (2, [Value.int (upd (aa 29) c v i), .int (aa 30 i)]) = _; rw [x_up_n (fun d => e ⟨rfl, d⟩)]; rfl | 4, _, _ => rfl | 5, _, _ => rfl | 6, _, _ => rfl | 7, _, _ => rfl | 8, _, _ => rfl | 9, _, _ => rfl | 10, _, _ => rfl | 11, _, _ => rfl | 12, _, _ => rfl | 13, _, _ => rfl | 14, _, _ => rfl | 15, _, _ => rfl | 16, _, _ => rfl | 17, _, _ => rfl | 18, _, _ => rfl | 19, _, _ => rfl | 20, _, _ => rfl | 21, _, _ => rfl | n + 22, l, _ => absurd l.1 (x_not22 n)
theorem x_pcat {mi pc pc' q i0 : Nat} {z : Int} {ls : am_L} {st : List Value} {Q : Option Value → am_H → Prop} {h0 h : am_H} {a b : Nat} {cc : Nat → Nat} {aa : Nat → Nat → Int32} {P : x_P} {D : x_D} (hx : XL h0 a b h cc aa P D) (c : Nat) (hc : c < cc 28) (v : Int32) (hf : am_S mi pc pc' (.putfield i0, 2, 0, q, z)) (k : ∀ h, XL h0 a b h cc (ua aa 29 (upd (aa 29) c v)) P D → am_wp mi (pc', ls, st) h Q) (hm : am_may mi 2 0 = true := by decide +kernel) : am_wp mi (pc, ls, .int v :: .ref (P 3 c) :: st) h Q := w_putf hf hm (hx.cr c hc) rfl rfl (k _ (xw_cat hx c hc v))
theorem c7 {h0 h : am_H} {a b : Nat} {cc : Nat → Nat} {aa : Nat → Nat → Int32} {P : x_P} {D : x_D} (hx : XL h0 a b h cc aa P D) (c : Nat) (hc : c < cc 28) (u v : Int32) : am_ev 7 [.ref (P 3 c), .int u, .int v] h (fun w h1 => w = none ∧ XL h0 a b h1 cc (ua (ua aa 29 (upd (aa 29) c u)) 30 (upd (aa 30) c v)) P D) := by
  show am_wp _ (_, [_, _, _], _) _ _
  refine w_aload_n s7_0 rfl ?_
  refine w_iload_n s7_1 rfl ?_
  refine x_pcat hx c hc u s7_2 (fun h hx => ?_)
  refine w_aload_n s7_5 rfl ?_
  refine w_iload_n s7_6 rfl ?_
  refine x_pfr hx c hc v s7_7 (fun h hx => ?_)
  refine w_vret s7_10 rk7 ?_
  exact ⟨rfl, hx⟩
theorem c62 {h : am_H} {cc : Nat → Nat} {aa : Nat → Nat → Int32} {P : x_P} {D : x_D} (hx : XL h 0 0 h cc aa P D) (iv : IV cc aa) (n d s t : Int32) : am_ev 62 [.ref 3, .int n, .int d, .int s, .int t] h (xQ h (S_cry cc aa n d s t)) := by
  have n0 := iv.n0
  have n2 := iv.n2
  have n3 := iv.n3
  have n7 := iv.n7
  have n8 := iv.n8
  have n16 := iv.n16
  have n20 := iv.n20
  have n28 := iv.n28
  have n31 := iv.n31
  have n38 := iv.n38
  have n45 := iv.n45
  show am_wp _ (_, [_, _, _, _, _, _, _], _) _ _
  refine w_aload_n s62_0 rfl ?_
  refine w_iload_n s62_1 rfl ?_
  refine w_callV1r s62_2 hx.o ow84 mc62_84 rfl rfl (c84 hx iv _) ?_
  refine w_ifeqB s62_5 rfl  (fun c5 => ?_) (fun c5 => ?_)
  · skip
    refine w_iconst (v := (-1)) s62_32 rfl ?_
    refine w_iret s62_33 rk62 ?_
    exact xq_end (by decide) (by decide) (by simp [S_cry, tn, am_bi, *] <;> first | rfl | exact ⟨rfl, rfl⟩ | exact ⟨rfl, rfl, rfl⟩) hx
  · skip
    obtain ⟨j, hj, rfl⟩ := x_ix_i c5
    have jcl := nI_clamp (show j < 2 ^ 31 by omega)
    refine w_aload_n s62_8 rfl ?_
    refine w_iload_n s62_9 rfl ?_
    refine w_callV1r s62_10 hx.o ow85 mc62_85 rfl rfl (c85 hx iv _) ?_
    refine w_ifeqB s62_13 rfl  (fun c13 => ?_) (fun c13 => ?_)
    · skip
      refine w_iconst (v := (-1)) s62_32 rfl ?_
      refine w_iret s62_33 rk62 ?_
      exact xq_end (by decide) (by decide) (by simp [S_cry, tn, am_bi, *] <;> first | rfl | exact ⟨rfl, rfl⟩ | exact ⟨rfl, rfl, rfl⟩) hx
    · skip
      obtain ⟨c, hc, rfl⟩ := x_ix_i c13
      have ccl := nI_clamp (show c < 2 ^ 31 by omega)
      refine w_aload_n s62_16 rfl ?_
      refine w_iload_n s62_17 rfl ?_
      refine w_callV1r s62_18 hx.o ow83 mc62_83 rfl rfl (c83 hx iv _) ?_
      refine w_ifeqB s62_21 rfl  (fun c21 => ?_) (fun c21 => ?_)
      · skip
        refine w_iconst (v := (-1)) s62_32 rfl ?_
        refine w_iret s62_33 rk62 ?_
        exact xq_end (by decide) (by decide) (by simp [S_cry, tn, am_bi, *] <;> first | rfl | exact ⟨rfl, rfl⟩ | exact ⟨rfl, rfl, rfl⟩) hx
      · skip
        obtain ⟨q, hq, rfl⟩ := x_ix_i c21
        have qcl := nI_clamp (show q < 2 ^ 31 by omega)
        refine w_iload s62_24 rfl ?_
        refine w_callS1r s62_26 mc62_79 rfl rfl (c79 _ _) ?_
        refine w_ifneB s62_29 rfl  (fun c29 => ?_) (fun c29 => ?_)
        · skip
          obtain ⟨m, hm, rfl⟩ := x_in_n (b := 1439) c29 (by decide)
          have mcl := nI_clamp (show m < 2 ^ 31 by omega)
          refine w_aload_n s62_34 rfl ?_
          refine w_getf s62_35 hx.o rfl ?_
          refine w_callV0r s62_38 (hx.l 4 (by decide)) ow181 mc62_181 rfl rfl (hx.size 4 (by decide)) ?_
          refine w_sipush (v := 400) s62_41 rfl ?_
          refine w_icmpltN (x := cc 31) (y := 400) s62_44 rfl (by omega) (by omega)  (fun c44 => ?_) (fun c44 => ?_)
          · skip
            have e10 : ¬ cc 31 = 400 := by omega
            refine w_aload_n s62_50 rfl ?_
            refine w_aload_n s62_51 rfl ?_
            refine w_getf s62_52 hx.o rfl ?_
            refine w_iload_n s62_55 rfl ?_
            refine w_callV1r s62_56 (hx.l 3 (by decide)) ow184 mc62_184 rfl rfl (hx.get 3 (by decide) (c) (show (c) < cc 28 by omega)) ?_
            refine w_cast s62_59 (hx.cr (c) (by omega)) ?_
            refine w_iload_n s62_62 rfl ?_
            refine w_callV2r s62_63 hx.o ow95 mc62_95 rfl rfl (c95 hx iv (c) (q) (by omega) (by omega)) ?_
            refine w_iload s62_66 rfl ?_
            refine w_icmple s62_68 rfl  (fun c68 => ?_) (fun c68 => ?_)
            · skip
              refine w_aload_n s62_74 rfl ?_
              refine w_iload_n s62_75 rfl ?_
              refine w_iload_n s62_76 rfl ?_
              refine w_iload s62_77 rfl ?_
              refine w_callV3r s62_79 hx.o ow96 mc62_96 rfl rfl (c96 hx iv _ (q) (m) (by omega) (by omega)) ?_
              refine w_ifeqB s62_82 rfl  (fun c82 => ?_) (fun c82 => ?_)
              · skip
                refine w_aload_n s62_88 rfl ?_
                refine w_getf s62_89 hx.o rfl ?_
                refine w_iload_n s62_92 rfl ?_
                refine w_callV1r s62_93 (hx.l 2 (by decide)) ow184 mc62_184 rfl rfl (hx.get 2 (by decide) (j) (show (j) < cc 20 by omega)) ?_
                refine w_cast s62_96 (hx.no (j) (by omega)) ?_
                refine w_astore s62_99 rfl ?_
                show am_wp _ (_, [_, _, _, _, _, _, _], _) _ _
                refine w_aload_n s62_101 rfl ?_
                refine w_aload s62_102 rfl ?_
                refine w_iload_n s62_104 rfl ?_
                refine w_callV2r s62_105 hx.o ow97 mc62_97 rfl rfl (c97 hx iv (j) (by omega) (q) (by omega)) ?_
                refine w_istore s62_108 rfl ?_
                show am_wp _ (_, [_, _, _, _, _, _, _], _) _ _
                refine w_iload s62_110 rfl ?_
                refine w_ifeqB s62_112 rfl  (fun cb => ?_) (fun cb => ?_)
                · skip
                  obtain hxc := x_cc_f (c := c) (m := m) n20 hx hj (show q < 10 by omega)
                  have hS := hx.2
                  clear hx
                  refine w_aload_n s62_125 rfl ?_
                  refine w_getf s62_126 (hxc.o hS) rfl ?_
                  refine w_new s62_129 rfl ?_
                  refine w_dup_r s62_132 ?_
                  refine w_iload_n s62_133 rfl ?_
                  refine w_iload_n s62_134 rfl ?_
                  refine w_iload_n s62_135 rfl ?_
                  refine w_aload_n s62_136 rfl ?_
                  refine w_getf s62_137 ((List.getElem?_append_left (x_lt (hxc.o hS))).trans (hxc.o hS)) rfl ?_
                  refine w_iload s62_140 rfl ?_
                  refine w_iload s62_142 rfl ?_
                  rw [cb]
                  refine w_callI6 s62_144 mc62_8 rfl rfl (c8 h _ _ _ _ _ false) ?_
                  rintro v h1 ⟨rfl, rfl⟩
                  show am_wp _ (_, _, _) _ _
                  refine w_callV1 s62_147 ((List.getElem?_append_left (x_lt (hxc.l hS))).trans (hxc.l hS)) ow186 mc62_186 rfl rfl (x_add_cy (cb := false) hxc hS (by omega)) ?_
                  rintro v h ⟨rfl, P2, D2, hP2, hx⟩
                  have ep : P2 2 j = P 2 j := hP2 2 j (by decide) (by omega)
                  show am_wp _ (_, _, Value.int 1 :: _) _ _
                  rw [← ep]
                  refine w_pop_i s62_150 ?_
                  refine w_aload_n s62_151 rfl ?_
                  refine w_getf s62_152 hx.o rfl ?_
                  refine w_iload_n s62_155 rfl ?_
                  refine w_callV1r s62_156 (hx.l 3 (by decide)) ow184 mc62_184 rfl rfl (hx.get 3 (by decide) c (show c < cc 28 by omega)) ?_
                  refine w_cast s62_159 (hx.cr (c) (show c < cc 28 by omega)) ?_
                  refine w_iload_n s62_162 rfl ?_
                  refine w_iload s62_163 rfl ?_
                  refine w_aload s62_165 rfl ?_
                  refine w_callV0r s62_167 (hx.no (j) (show j < cc 20 by omega)) ow15 mc62_15 rfl rfl (c15 hx j (show j < cc 20 by omega)) ?_
                  refine w_iadd s62_170 rfl ?_
                  refine w_callV2 s62_171 (hx.cr (c) (show c < cc 28 by omega)) ow7 mc62_7 rfl rfl (c7 hx c (show c < cc 28 by omega) _ _) ?_
                  rintro v h ⟨rfl, hx⟩
                  show am_wp _ (_, _, _) _ _
                  refine w_iload s62_174 rfl ?_
                  refine w_callS1r s62_176 mc62_88 rfl rfl (c88 _ _) ?_
                  refine w_iret s62_179 rk62 ?_
                  exact xq_end (by decide) (by decide) (by simp [S_cry, tn, am_bi, *] <;> first | rfl | exact ⟨rfl, rfl⟩ | exact ⟨rfl, rfl, rfl⟩) hx
                · skip
                  skip
                  refine w_aload s62_115 rfl ?_
                  refine w_iload_n s62_117 rfl ?_
                  refine w_aload_n s62_118 rfl ?_
                  refine w_getf s62_119 hx.o rfl ?_
                  refine w_callV2 s62_122 (hx.no (j) (by omega)) ow16 mc62_16 rfl rfl (c16 hx j q hj (by omega) (nI (cc 2))) ?_
                  rintro v h ⟨rfl, g2⟩
                  obtain hxc := x_cc_t (c := c) (m := m) n20 hj (show q < 10 by omega) g2
                  have hS := hx.2
                  clear hx g2
                  show am_wp _ (_, _, _) _ _
                  refine w_aload_n s62_125 rfl ?_
                  refine w_getf s62_126 (hxc.o hS) rfl ?_
                  refine w_new s62_129 rfl ?_
                  refine w_dup_r s62_132 ?_
                  refine w_iload_n s62_133 rfl ?_
                  refine w_iload_n s62_134 rfl ?_
                  refine w_iload_n s62_135 rfl ?_
                  refine w_aload_n s62_136 rfl ?_
                  refine w_getf s62_137 ((List.getElem?_append_left (x_lt (hxc.o hS))).trans (hxc.o hS)) rfl ?_
                  refine w_iload s62_140 rfl ?_
                  refine w_iload s62_142 rfl ?_
                  rw [cb]
                  refine w_callI6 s62_144 mc62_8 rfl rfl (c8 h _ _ _ _ _ true) ?_
                  rintro v h1 ⟨rfl, rfl⟩
                  show am_wp _ (_, _, _) _ _
                  refine w_callV1 s62_147 ((List.getElem?_append_left (x_lt (hxc.l hS))).trans (hxc.l hS)) ow186 mc62_186 rfl rfl (x_add_cy (cb := true) hxc hS (by omega)) ?_
                  rintro v h ⟨rfl, P2, D2, hP2, hx⟩
                  have ep : P2 2 j = P 2 j := hP2 2 j (by decide) (by omega)
                  show am_wp _ (_, _, Value.int 1 :: _) _ _
                  rw [← ep]
                  refine w_pop_i s62_150 ?_
                  refine w_aload_n s62_151 rfl ?_
                  refine w_getf s62_152 hx.o rfl ?_
                  refine w_iload_n s62_155 rfl ?_
                  refine w_callV1r s62_156 (hx.l 3 (by decide)) ow184 mc62_184 rfl rfl (hx.get 3 (by decide) c (show c < cc 28 by omega)) ?_
                  refine w_cast s62_159 (hx.cr (c) (show c < cc 28 by omega)) ?_
                  refine w_iload_n s62_162 rfl ?_
                  refine w_iload s62_163 rfl ?_
                  refine w_aload s62_165 rfl ?_
                  refine w_callV0r s62_167 (hx.no (j) (show j < cc 20 by omega)) ow15 mc62_15 rfl rfl (c15 hx j (show j < cc 20 by omega)) ?_
                  refine w_iadd s62_170 rfl ?_
                  refine w_callV2 s62_171 (hx.cr (c) (show c < cc 28 by omega)) ow7 mc62_7 rfl rfl (c7 hx c (show c < cc 28 by omega) _ _) ?_
                  rintro v h ⟨rfl, hx⟩
                  show am_wp _ (_, _, _) _ _
                  refine w_iload s62_174 rfl ?_
                  refine w_callS1r s62_176 mc62_88 rfl rfl (c88 _ _) ?_
                  refine w_iret s62_179 rk62 ?_
                  exact xq_end (by decide) (by decide) (by simp [S_cry, tn, am_bi, *] <;> first | rfl | exact ⟨rfl, rfl⟩ | exact ⟨rfl, rfl, rfl⟩) hx
              · skip
                refine w_bipush (v := (-5)) s62_85 rfl ?_
                refine w_iret s62_87 rk62 ?_
                exact xq_end (by decide) (by decide) (by simp [S_cry, tn, am_bi, *] <;> first | rfl | exact ⟨rfl, rfl⟩ | exact ⟨rfl, rfl, rfl⟩) hx
            · skip
              refine w_bipush (v := (-4)) s62_71 rfl ?_
              refine w_iret s62_73 rk62 ?_
              exact xq_end (by decide) (by decide) (by simp [S_cry, tn, am_bi, *] <;> first | rfl | exact ⟨rfl, rfl⟩ | exact ⟨rfl, rfl, rfl⟩) hx
          · skip
            have e10 : cc 31 = 400 := by omega
            refine w_bipush (v := (-2)) s62_47 rfl ?_
            refine w_iret s62_49 rk62 ?_
            exact xq_end (by decide) (by decide) (by simp [S_cry, tn, am_bi, *] <;> first | rfl | exact ⟨rfl, rfl⟩ | exact ⟨rfl, rfl, rfl⟩) hx
        · skip
          refine w_iconst (v := (-1)) s62_32 rfl ?_
          refine w_iret s62_33 rk62 ?_
          exact xq_end (by decide) (by decide) (by simp [S_cry, tn, am_bi, *] <;> first | rfl | exact ⟨rfl, rfl⟩ | exact ⟨rfl, rfl, rfl⟩) hx
