/-! the class's answers that change nothing -/
theorem x_tb {v : Int32} (h : v = 0 ∨ v = 1) : v = am_bi (!decide (v = 0)) := by
  rcases h with rfl | rfl <;> rfl
theorem x_inq {w : Int32} {lo hi : Nat} (hh : hi < 2 ^ 31) (hl : lo < 2 ^ 31) (hq : w.toInt < (lo : Int) ∨ (hi : Int) < w.toInt) : x_in w (nI lo) (nI hi) = false := by
  unfold x_in
  rw [← Bool.decide_and]
  apply decide_eq_false
  rw [Int32.le_iff_toInt_le, Int32.le_iff_toInt_le, nI_toInt hh, nI_toInt hl]
  omega
theorem c41 {h0 h : am_H} {a b : Nat} {cc : Nat → Nat} {aa : Nat → Nat → Int32} {P : x_P} {D : x_D} (hx : XL h0 a b h cc aa P D) (iv : IV cc aa) (p q : Int32) : am_rd 41 [.ref 3, .int p, .int q] h (.int (x_walk cc aa p q)) := by
  have n0 := iv.n0
  have n2 := iv.n2
  have n3 := iv.n3
  have n7 := iv.n7
  have n8 := iv.n8
  have n16 := iv.n16
  have n20 := iv.n20
  have n28 := iv.n28
  have n31 := iv.n31
  have n38 := iv.n38
  have n45 := iv.n45
  show am_wp _ (_, [_, _, _], _) _ _
  refine w_aload_n s41_0 rfl ?_
  refine w_iload_n s41_1 rfl ?_
  refine w_callV1r s41_2 hx.o ow83 mc41_83 rfl rfl (c83 hx iv _) ?_
  refine w_ifeqB s41_5 rfl  (fun c5 => ?_) (fun c5 => ?_)
  · skip
    refine w_iconst (v := (-1)) s41_16 rfl ?_
    refine w_iret s41_17 rk41 ?_
    exact ⟨by simp [x_walk, tn, *], rfl⟩
  · skip
    obtain ⟨i, hi, rfl⟩ := x_ix_i c5
    have icl := nI_clamp (show i < 2 ^ 31 by omega)
    refine w_aload_n s41_8 rfl ?_
    refine w_iload_n s41_9 rfl ?_
    refine w_callV1r s41_10 hx.o ow83 mc41_83 rfl rfl (c83 hx iv _) ?_
    refine w_ifneB s41_13 rfl  (fun c13 => ?_) (fun c13 => ?_)
    · skip
      obtain ⟨j, hj, rfl⟩ := x_ix_i c13
      have jcl := nI_clamp (show j < 2 ^ 31 by omega)
      refine w_aload_n s41_18 rfl ?_
      refine w_iload_n s41_19 rfl ?_
      refine w_iload_n s41_20 rfl ?_
      refine w_callV2r s41_21 hx.o ow90 mc41_90 rfl rfl (c90 hx iv (i) (j) (by omega) (by omega)) ?_
      refine w_iret s41_24 rk41 ?_
      exact ⟨by simp [x_walk, tn, *], rfl⟩
    · skip
      refine w_iconst (v := (-1)) s41_16 rfl ?_
      refine w_iret s41_17 rk41 ?_
      exact ⟨by simp [x_walk, tn, *], rfl⟩
theorem c45 {h0 h : am_H} {a b : Nat} {cc : Nat → Nat} {aa : Nat → Nat → Int32} {P : x_P} {D : x_D} (hx : XL h0 a b h cc aa P D) (iv : IV cc aa) (s d k : Int32) : am_rd 45 [.ref 3, .int s, .int d, .int k] h (.int (x_market cc aa s d k)) := by
  have n0 := iv.n0
  have n2 := iv.n2
  have n3 := iv.n3
  have n7 := iv.n7
  have n8 := iv.n8
  have n16 := iv.n16
  have n20 := iv.n20
  have n28 := iv.n28
  have n31 := iv.n31
  have n38 := iv.n38
  have n45 := iv.n45
  show am_wp _ (_, [_, _, _, _], _) _ _
  refine w_aload_n s45_0 rfl ?_
  refine w_iload_n s45_1 rfl ?_
  refine w_callV1r s45_2 hx.o ow83 mc45_83 rfl rfl (c83 hx iv _) ?_
  refine w_ifeqB s45_5 rfl  (fun c5 => ?_) (fun c5 => ?_)
  · skip
    refine w_iconst (v := (-1)) s45_22 rfl ?_
    refine w_iret s45_23 rk45 ?_
    exact ⟨by simp [x_market, tn, *], rfl⟩
  · skip
    obtain ⟨i, hi, rfl⟩ := x_ix_i c5
    have icl := nI_clamp (show i < 2 ^ 31 by omega)
    refine w_iload_n s45_8 rfl ?_
    refine w_callS1r s45_9 mc45_78 rfl rfl (c78 _ _) ?_
    refine w_ifeqB s45_12 rfl  (fun c12 => ?_) (fun c12 => ?_)
    · skip
      refine w_iconst (v := (-1)) s45_22 rfl ?_
      refine w_iret s45_23 rk45 ?_
      exact ⟨by simp [x_market, tn, *], rfl⟩
    · skip
      refine w_iload_n s45_15 rfl ?_
      refine w_callS1r s45_16 mc45_78 rfl rfl (c78 _ _) ?_
      refine w_ifneB s45_19 rfl  (fun c19 => ?_) (fun c19 => ?_)
      · skip
        refine w_aload_n s45_24 rfl ?_
        refine w_iload_n s45_25 rfl ?_
        refine w_iload_n s45_26 rfl ?_
        refine w_iload_n s45_27 rfl ?_
        refine w_callV3r s45_28 hx.o ow93 mc45_93 rfl rfl (c93 hx iv (i) (by omega) _ _) ?_
        refine w_callS1r s45_31 mc45_88 rfl rfl (c88 _ _) ?_
        refine w_iret s45_34 rk45 ?_
        exact ⟨by simp [x_market, tn, *], rfl⟩
      · skip
        refine w_iconst (v := (-1)) s45_22 rfl ?_
        refine w_iret s45_23 rk45 ?_
        exact ⟨by simp [x_market, tn, *], rfl⟩
theorem c55 {h0 h : am_H} {a b : Nat} {cc : Nat → Nat} {aa : Nat → Nat → Int32} {P : x_P} {D : x_D} (hx : XL h0 a b h cc aa P D) (iv : IV cc aa) (n w : Int32) : am_rd 55 [.ref 3, .int n, .int w] h (.int (x_told cc aa n w)) := by
  have n0 := iv.n0
  have n2 := iv.n2
  have n3 := iv.n3
  have n7 := iv.n7
  have n8 := iv.n8
  have n16 := iv.n16
  have n20 := iv.n20
  have n28 := iv.n28
  have n31 := iv.n31
  have n38 := iv.n38
  have n45 := iv.n45
  show am_wp _ (_, [_, _, _, _], _) _ _
  refine w_aload_n s55_0 rfl ?_
  refine w_iload_n s55_1 rfl ?_
  refine w_callV1r s55_2 hx.o ow84 mc55_84 rfl rfl (c84 hx iv _) ?_
  refine w_ifneB s55_5 rfl  (fun c5 => ?_) (fun c5 => ?_)
  · skip
    obtain ⟨j, hj, rfl⟩ := x_ix_i c5
    have jcl := nI_clamp (show j < 2 ^ 31 by omega)
    refine w_aload_n s55_10 rfl ?_
    refine w_getf s55_11 hx.o rfl ?_
    refine w_iload_n s55_14 rfl ?_
    refine w_callV1r s55_15 (hx.l 2 (by decide)) ow184 mc55_184 rfl rfl (hx.get 2 (by decide) (j) (show (j) < cc 20 by omega)) ?_
    refine w_cast s55_18 (hx.no (j) (by omega)) ?_
    refine w_astore_n s55_21 rfl ?_
    show am_wp _ (_, [_, _, _, _], _) _ _
    refine w_iload_n s55_22 rfl ?_
    rcases x_sw w 0 6 (by decide) (by decide) with hq | ⟨j23, hj1, hj2, hj3⟩
    · skip
      refine w_tswO s55_23 hq rfl ?_
      have hqi : x_in w 0 6 = false := x_inq (lo := 0) (hi := 6) (by decide) (by decide) hq
      refine w_iconst (v := (-1)) s55_105 rfl ?_
      refine w_iret s55_106 rk55 ?_
      first | (refine ⟨?_, rfl⟩; simp [x_told, x_tells, tn, *]; done) | (refine ⟨?_, rfl⟩; simp [x_told, x_tells, tn, show x_in (0 : Int32) 0 6 = true from rfl, show x_in (1 : Int32) 0 6 = true from rfl, show x_in (2 : Int32) 0 6 = true from rfl, show x_in (3 : Int32) 0 6 = true from rfl, show x_in (4 : Int32) 0 6 = true from rfl, show x_in (5 : Int32) 0 6 = true from rfl, show x_in (6 : Int32) 0 6 = true from rfl, *]; done) | (refine ⟨?_, rfl⟩; by_cases e : aa 27 j = 0 <;> simp [x_told, x_tells, am_bi, tn, show x_in (0 : Int32) 0 6 = true from rfl, show x_in (1 : Int32) 0 6 = true from rfl, show x_in (2 : Int32) 0 6 = true from rfl, show x_in (3 : Int32) 0 6 = true from rfl, show x_in (4 : Int32) 0 6 = true from rfl, show x_in (5 : Int32) 0 6 = true from rfl, show x_in (6 : Int32) 0 6 = true from rfl, *]; done) | (refine ⟨?_, rfl⟩; by_cases e : x_lacks cc aa j = 0 <;> simp [x_told, x_tells, am_bi, tn, show x_in (0 : Int32) 0 6 = true from rfl, show x_in (1 : Int32) 0 6 = true from rfl, show x_in (2 : Int32) 0 6 = true from rfl, show x_in (3 : Int32) 0 6 = true from rfl, show x_in (4 : Int32) 0 6 = true from rfl, show x_in (5 : Int32) 0 6 = true from rfl, show x_in (6 : Int32) 0 6 = true from rfl, *]; done)
    · skip
      obtain (rfl | rfl | rfl | rfl | rfl | rfl | rfl) : j23 = 0 ∨ j23 = 1 ∨ j23 = 2 ∨ j23 = 3 ∨ j23 = 4 ∨ j23 = 5 ∨ j23 = 6 := by omega
      · skip
        have hj4 : w = 0 := hj3
        clear hj3
        subst hj4
        refine w_tswI (n := 0) s55_23 (by decide) rfl rfl rfl ?_
        refine w_aload_n s55_64 rfl ?_
        refine w_getf s55_65 (hx.no (j) (by omega)) rfl ?_
        refine w_iret s55_68 rk55 ?_
        first | (refine ⟨?_, rfl⟩; simp [x_told, x_tells, tn, *]; done) | (refine ⟨?_, rfl⟩; simp [x_told, x_tells, tn, show x_in (0 : Int32) 0 6 = true from rfl, show x_in (1 : Int32) 0 6 = true from rfl, show x_in (2 : Int32) 0 6 = true from rfl, show x_in (3 : Int32) 0 6 = true from rfl, show x_in (4 : Int32) 0 6 = true from rfl, show x_in (5 : Int32) 0 6 = true from rfl, show x_in (6 : Int32) 0 6 = true from rfl, *]; done) | (refine ⟨?_, rfl⟩; by_cases e : aa 27 j = 0 <;> simp [x_told, x_tells, am_bi, tn, show x_in (0 : Int32) 0 6 = true from rfl, show x_in (1 : Int32) 0 6 = true from rfl, show x_in (2 : Int32) 0 6 = true from rfl, show x_in (3 : Int32) 0 6 = true from rfl, show x_in (4 : Int32) 0 6 = true from rfl, show x_in (5 : Int32) 0 6 = true from rfl, show x_in (6 : Int32) 0 6 = true from rfl, *]; done) | (refine ⟨?_, rfl⟩; by_cases e : x_lacks cc aa j = 0 <;> simp [x_told, x_tells, am_bi, tn, show x_in (0 : Int32) 0 6 = true from rfl, show x_in (1 : Int32) 0 6 = true from rfl, show x_in (2 : Int32) 0 6 = true from rfl, show x_in (3 : Int32) 0 6 = true from rfl, show x_in (4 : Int32) 0 6 = true from rfl, show x_in (5 : Int32) 0 6 = true from rfl, show x_in (6 : Int32) 0 6 = true from rfl, *]; done)
      · skip
        have hj4 : w = 1 := hj3
        clear hj3
        subst hj4
        refine w_tswI (n := 1) s55_23 (by decide) rfl rfl rfl ?_
        refine w_aload_n s55_69 rfl ?_
        refine w_getf s55_70 (hx.no (j) (by omega)) rfl ?_
        refine w_iret s55_73 rk55 ?_
        first | (refine ⟨?_, rfl⟩; simp [x_told, x_tells, tn, *]; done) | (refine ⟨?_, rfl⟩; simp [x_told, x_tells, tn, show x_in (0 : Int32) 0 6 = true from rfl, show x_in (1 : Int32) 0 6 = true from rfl, show x_in (2 : Int32) 0 6 = true from rfl, show x_in (3 : Int32) 0 6 = true from rfl, show x_in (4 : Int32) 0 6 = true from rfl, show x_in (5 : Int32) 0 6 = true from rfl, show x_in (6 : Int32) 0 6 = true from rfl, *]; done) | (refine ⟨?_, rfl⟩; by_cases e : aa 27 j = 0 <;> simp [x_told, x_tells, am_bi, tn, show x_in (0 : Int32) 0 6 = true from rfl, show x_in (1 : Int32) 0 6 = true from rfl, show x_in (2 : Int32) 0 6 = true from rfl, show x_in (3 : Int32) 0 6 = true from rfl, show x_in (4 : Int32) 0 6 = true from rfl, show x_in (5 : Int32) 0 6 = true from rfl, show x_in (6 : Int32) 0 6 = true from rfl, *]; done) | (refine ⟨?_, rfl⟩; by_cases e : x_lacks cc aa j = 0 <;> simp [x_told, x_tells, am_bi, tn, show x_in (0 : Int32) 0 6 = true from rfl, show x_in (1 : Int32) 0 6 = true from rfl, show x_in (2 : Int32) 0 6 = true from rfl, show x_in (3 : Int32) 0 6 = true from rfl, show x_in (4 : Int32) 0 6 = true from rfl, show x_in (5 : Int32) 0 6 = true from rfl, show x_in (6 : Int32) 0 6 = true from rfl, *]; done)
      · skip
        have hj4 : w = 2 := hj3
        clear hj3
        subst hj4
        refine w_tswI (n := 2) s55_23 (by decide) rfl rfl rfl ?_
        refine w_aload_n s55_74 rfl ?_
        refine w_getf s55_75 (hx.no (j) (by omega)) rfl ?_
        refine w_iret s55_78 rk55 ?_
        first | (refine ⟨?_, rfl⟩; simp [x_told, x_tells, tn, *]; done) | (refine ⟨?_, rfl⟩; simp [x_told, x_tells, tn, show x_in (0 : Int32) 0 6 = true from rfl, show x_in (1 : Int32) 0 6 = true from rfl, show x_in (2 : Int32) 0 6 = true from rfl, show x_in (3 : Int32) 0 6 = true from rfl, show x_in (4 : Int32) 0 6 = true from rfl, show x_in (5 : Int32) 0 6 = true from rfl, show x_in (6 : Int32) 0 6 = true from rfl, *]; done) | (refine ⟨?_, rfl⟩; by_cases e : aa 27 j = 0 <;> simp [x_told, x_tells, am_bi, tn, show x_in (0 : Int32) 0 6 = true from rfl, show x_in (1 : Int32) 0 6 = true from rfl, show x_in (2 : Int32) 0 6 = true from rfl, show x_in (3 : Int32) 0 6 = true from rfl, show x_in (4 : Int32) 0 6 = true from rfl, show x_in (5 : Int32) 0 6 = true from rfl, show x_in (6 : Int32) 0 6 = true from rfl, *]; done) | (refine ⟨?_, rfl⟩; by_cases e : x_lacks cc aa j = 0 <;> simp [x_told, x_tells, am_bi, tn, show x_in (0 : Int32) 0 6 = true from rfl, show x_in (1 : Int32) 0 6 = true from rfl, show x_in (2 : Int32) 0 6 = true from rfl, show x_in (3 : Int32) 0 6 = true from rfl, show x_in (4 : Int32) 0 6 = true from rfl, show x_in (5 : Int32) 0 6 = true from rfl, show x_in (6 : Int32) 0 6 = true from rfl, *]; done)
      · skip
        have hj4 : w = 3 := hj3
        clear hj3
        subst hj4
        refine w_tswI (n := 3) s55_23 (by decide) rfl rfl rfl ?_
        refine w_aload_n s55_79 rfl ?_
        refine w_getf s55_80 (hx.no (j) (by omega)) rfl ?_
        refine w_iret s55_83 rk55 ?_
        first | (refine ⟨?_, rfl⟩; simp [x_told, x_tells, tn, *]; done) | (refine ⟨?_, rfl⟩; simp [x_told, x_tells, tn, show x_in (0 : Int32) 0 6 = true from rfl, show x_in (1 : Int32) 0 6 = true from rfl, show x_in (2 : Int32) 0 6 = true from rfl, show x_in (3 : Int32) 0 6 = true from rfl, show x_in (4 : Int32) 0 6 = true from rfl, show x_in (5 : Int32) 0 6 = true from rfl, show x_in (6 : Int32) 0 6 = true from rfl, *]; done) | (refine ⟨?_, rfl⟩; by_cases e : aa 27 j = 0 <;> simp [x_told, x_tells, am_bi, tn, show x_in (0 : Int32) 0 6 = true from rfl, show x_in (1 : Int32) 0 6 = true from rfl, show x_in (2 : Int32) 0 6 = true from rfl, show x_in (3 : Int32) 0 6 = true from rfl, show x_in (4 : Int32) 0 6 = true from rfl, show x_in (5 : Int32) 0 6 = true from rfl, show x_in (6 : Int32) 0 6 = true from rfl, *]; done) | (refine ⟨?_, rfl⟩; by_cases e : x_lacks cc aa j = 0 <;> simp [x_told, x_tells, am_bi, tn, show x_in (0 : Int32) 0 6 = true from rfl, show x_in (1 : Int32) 0 6 = true from rfl, show x_in (2 : Int32) 0 6 = true from rfl, show x_in (3 : Int32) 0 6 = true from rfl, show x_in (4 : Int32) 0 6 = true from rfl, show x_in (5 : Int32) 0 6 = true from rfl, show x_in (6 : Int32) 0 6 = true from rfl, *]; done)
      · skip
        have hj4 : w = 4 := hj3
        clear hj3
        subst hj4
        refine w_tswI (n := 4) s55_23 (by decide) rfl rfl rfl ?_
        refine w_aload_n s55_84 rfl ?_
        refine w_getf s55_85 (hx.no (j) (by omega)) rfl ?_
        refine w_iret s55_88 rk55 ?_
        first | (refine ⟨?_, rfl⟩; simp [x_told, x_tells, tn, *]; done) | (refine ⟨?_, rfl⟩; simp [x_told, x_tells, tn, show x_in (0 : Int32) 0 6 = true from rfl, show x_in (1 : Int32) 0 6 = true from rfl, show x_in (2 : Int32) 0 6 = true from rfl, show x_in (3 : Int32) 0 6 = true from rfl, show x_in (4 : Int32) 0 6 = true from rfl, show x_in (5 : Int32) 0 6 = true from rfl, show x_in (6 : Int32) 0 6 = true from rfl, *]; done) | (refine ⟨?_, rfl⟩; by_cases e : aa 27 j = 0 <;> simp [x_told, x_tells, am_bi, tn, show x_in (0 : Int32) 0 6 = true from rfl, show x_in (1 : Int32) 0 6 = true from rfl, show x_in (2 : Int32) 0 6 = true from rfl, show x_in (3 : Int32) 0 6 = true from rfl, show x_in (4 : Int32) 0 6 = true from rfl, show x_in (5 : Int32) 0 6 = true from rfl, show x_in (6 : Int32) 0 6 = true from rfl, *]; done) | (refine ⟨?_, rfl⟩; by_cases e : x_lacks cc aa j = 0 <;> simp [x_told, x_tells, am_bi, tn, show x_in (0 : Int32) 0 6 = true from rfl, show x_in (1 : Int32) 0 6 = true from rfl, show x_in (2 : Int32) 0 6 = true from rfl, show x_in (3 : Int32) 0 6 = true from rfl, show x_in (4 : Int32) 0 6 = true from rfl, show x_in (5 : Int32) 0 6 = true from rfl, show x_in (6 : Int32) 0 6 = true from rfl, *]; done)
      · skip
        have hj4 : w = 5 := hj3
        clear hj3
        subst hj4
        refine w_tswI (n := 5) s55_23 (by decide) rfl rfl rfl ?_
        refine w_aload_n s55_89 rfl ?_
        refine w_getf s55_90 (hx.no (j) (by omega)) rfl ?_
        rw [x_tb (iv.bk j (by omega))]
        refine w_callS1r s55_93 mc55_88 rfl rfl (c88 _ _) ?_
        refine w_iret s55_96 rk55 ?_
        first | (refine ⟨?_, rfl⟩; simp [x_told, x_tells, tn, *]; done) | (refine ⟨?_, rfl⟩; simp [x_told, x_tells, tn, show x_in (0 : Int32) 0 6 = true from rfl, show x_in (1 : Int32) 0 6 = true from rfl, show x_in (2 : Int32) 0 6 = true from rfl, show x_in (3 : Int32) 0 6 = true from rfl, show x_in (4 : Int32) 0 6 = true from rfl, show x_in (5 : Int32) 0 6 = true from rfl, show x_in (6 : Int32) 0 6 = true from rfl, *]; done) | (refine ⟨?_, rfl⟩; by_cases e : aa 27 j = 0 <;> simp [x_told, x_tells, am_bi, tn, show x_in (0 : Int32) 0 6 = true from rfl, show x_in (1 : Int32) 0 6 = true from rfl, show x_in (2 : Int32) 0 6 = true from rfl, show x_in (3 : Int32) 0 6 = true from rfl, show x_in (4 : Int32) 0 6 = true from rfl, show x_in (5 : Int32) 0 6 = true from rfl, show x_in (6 : Int32) 0 6 = true from rfl, *]; done) | (refine ⟨?_, rfl⟩; by_cases e : x_lacks cc aa j = 0 <;> simp [x_told, x_tells, am_bi, tn, show x_in (0 : Int32) 0 6 = true from rfl, show x_in (1 : Int32) 0 6 = true from rfl, show x_in (2 : Int32) 0 6 = true from rfl, show x_in (3 : Int32) 0 6 = true from rfl, show x_in (4 : Int32) 0 6 = true from rfl, show x_in (5 : Int32) 0 6 = true from rfl, show x_in (6 : Int32) 0 6 = true from rfl, *]; done)
      · skip
        have hj4 : w = 6 := hj3
        clear hj3
        subst hj4
        refine w_tswI (n := 6) s55_23 (by decide) rfl rfl rfl ?_
        refine w_aload_n s55_97 rfl ?_
        refine w_callV0r s55_98 (hx.no (j) (by omega)) ow13 mc55_13 rfl rfl (c13 hx iv (j) (by omega)) ?_
        refine w_callS1r s55_101 mc55_88 rfl rfl (c88 _ _) ?_
        refine w_iret s55_104 rk55 ?_
        first | (refine ⟨?_, rfl⟩; simp [x_told, x_tells, tn, *]; done) | (refine ⟨?_, rfl⟩; simp [x_told, x_tells, tn, show x_in (0 : Int32) 0 6 = true from rfl, show x_in (1 : Int32) 0 6 = true from rfl, show x_in (2 : Int32) 0 6 = true from rfl, show x_in (3 : Int32) 0 6 = true from rfl, show x_in (4 : Int32) 0 6 = true from rfl, show x_in (5 : Int32) 0 6 = true from rfl, show x_in (6 : Int32) 0 6 = true from rfl, *]; done) | (refine ⟨?_, rfl⟩; by_cases e : aa 27 j = 0 <;> simp [x_told, x_tells, am_bi, tn, show x_in (0 : Int32) 0 6 = true from rfl, show x_in (1 : Int32) 0 6 = true from rfl, show x_in (2 : Int32) 0 6 = true from rfl, show x_in (3 : Int32) 0 6 = true from rfl, show x_in (4 : Int32) 0 6 = true from rfl, show x_in (5 : Int32) 0 6 = true from rfl, show x_in (6 : Int32) 0 6 = true from rfl, *]; done) | (refine ⟨?_, rfl⟩; by_cases e : x_lacks cc aa j = 0 <;> simp [x_told, x_tells, am_bi, tn, show x_in (0 : Int32) 0 6 = true from rfl, show x_in (1 : Int32) 0 6 = true from rfl, show x_in (2 : Int32) 0 6 = true from rfl, show x_in (3 : Int32) 0 6 = true from rfl, show x_in (4 : Int32) 0 6 = true from rfl, show x_in (5 : Int32) 0 6 = true from rfl, show x_in (6 : Int32) 0 6 = true from rfl, *]; done)
  · skip
    refine w_iconst (v := (-1)) s55_8 rfl ?_
    refine w_iret s55_9 rk55 ?_
    first | (refine ⟨?_, rfl⟩; simp [x_told, x_tells, tn, *]; done) | (refine ⟨?_, rfl⟩; simp [x_told, x_tells, tn, show x_in (0 : Int32) 0 6 = true from rfl, show x_in (1 : Int32) 0 6 = true from rfl, show x_in (2 : Int32) 0 6 = true from rfl, show x_in (3 : Int32) 0 6 = true from rfl, show x_in (4 : Int32) 0 6 = true from rfl, show x_in (5 : Int32) 0 6 = true from rfl, show x_in (6 : Int32) 0 6 = true from rfl, *]; done) | (refine ⟨?_, rfl⟩; by_cases e : aa 27 j = 0 <;> simp [x_told, x_tells, am_bi, tn, show x_in (0 : Int32) 0 6 = true from rfl, show x_in (1 : Int32) 0 6 = true from rfl, show x_in (2 : Int32) 0 6 = true from rfl, show x_in (3 : Int32) 0 6 = true from rfl, show x_in (4 : Int32) 0 6 = true from rfl, show x_in (5 : Int32) 0 6 = true from rfl, show x_in (6 : Int32) 0 6 = true from rfl, *]; done) | (refine ⟨?_, rfl⟩; by_cases e : x_lacks cc aa j = 0 <;> simp [x_told, x_tells, am_bi, tn, show x_in (0 : Int32) 0 6 = true from rfl, show x_in (1 : Int32) 0 6 = true from rfl, show x_in (2 : Int32) 0 6 = true from rfl, show x_in (3 : Int32) 0 6 = true from rfl, show x_in (4 : Int32) 0 6 = true from rfl, show x_in (5 : Int32) 0 6 = true from rfl, show x_in (6 : Int32) 0 6 = true from rfl, *]; done)
theorem c57 {h0 h : am_H} {a b : Nat} {cc : Nat → Nat} {aa : Nat → Nat → Int32} {P : x_P} {D : x_D} (hx : XL h0 a b h cc aa P D) (iv : IV cc aa) (n : Int32) : am_rd 57 [.ref 3, .int n] h (.int (x_feeA cc aa n)) := by
  have n0 := iv.n0
  have n2 := iv.n2
  have n3 := iv.n3
  have n7 := iv.n7
  have n8 := iv.n8
  have n16 := iv.n16
  have n20 := iv.n20
  have n28 := iv.n28
  have n31 := iv.n31
  have n38 := iv.n38
  have n45 := iv.n45
  show am_wp _ (_, [_, _], _) _ _
  refine w_aload_n s57_0 rfl ?_
  refine w_iload_n s57_1 rfl ?_
  refine w_callV1r s57_2 hx.o ow84 mc57_84 rfl rfl (c84 hx iv _) ?_
  refine w_ifneB s57_5 rfl  (fun c5 => ?_) (fun c5 => ?_)
  · skip
    obtain ⟨j, hj, rfl⟩ := x_ix_i c5
    have jcl := nI_clamp (show j < 2 ^ 31 by omega)
    refine w_aload_n s57_10 rfl ?_
    refine w_aload_n s57_11 rfl ?_
    refine w_getf s57_12 hx.o rfl ?_
    refine w_iload_n s57_15 rfl ?_
    refine w_callV1r s57_16 (hx.l 2 (by decide)) ow184 mc57_184 rfl rfl (hx.get 2 (by decide) (j) (show (j) < cc 20 by omega)) ?_
    refine w_cast s57_19 (hx.no (j) (by omega)) ?_
    refine w_callV1r s57_22 hx.o ow94 mc57_94 rfl rfl (c94 hx iv (j) (by omega)) ?_
    refine w_iret s57_25 rk57 ?_
    exact ⟨by simp [x_feeA, tn, *], rfl⟩
  · skip
    refine w_iconst (v := (-1)) s57_8 rfl ?_
    refine w_iret s57_9 rk57 ?_
    exact ⟨by simp [x_feeA, tn, *], rfl⟩
theorem c61 {h0 h : am_H} {a b : Nat} {cc : Nat → Nat} {aa : Nat → Nat → Int32} {P : x_P} {D : x_D} (hx : XL h0 a b h cc aa P D) (iv : IV cc aa) (c q : Int32) : am_rd 61 [.ref 3, .int c, .int q] h (.int (x_readyA cc aa c q)) := by
  have n0 := iv.n0
  have n2 := iv.n2
  have n3 := iv.n3
  have n7 := iv.n7
  have n8 := iv.n8
  have n16 := iv.n16
  have n20 := iv.n20
  have n28 := iv.n28
  have n31 := iv.n31
  have n38 := iv.n38
  have n45 := iv.n45
  show am_wp _ (_, [_, _, _], _) _ _
  refine w_aload_n s61_0 rfl ?_
  refine w_iload_n s61_1 rfl ?_
  refine w_callV1r s61_2 hx.o ow85 mc61_85 rfl rfl (c85 hx iv _) ?_
  refine w_ifeqB s61_5 rfl  (fun c5 => ?_) (fun c5 => ?_)
  · skip
    refine w_iconst (v := (-1)) s61_16 rfl ?_
    refine w_iret s61_17 rk61 ?_
    exact ⟨by simp [x_readyA, tn, *], rfl⟩
  · skip
    obtain ⟨i, hi, rfl⟩ := x_ix_i c5
    have icl := nI_clamp (show i < 2 ^ 31 by omega)
    refine w_aload_n s61_8 rfl ?_
    refine w_iload_n s61_9 rfl ?_
    refine w_callV1r s61_10 hx.o ow83 mc61_83 rfl rfl (c83 hx iv _) ?_
    refine w_ifneB s61_13 rfl  (fun c13 => ?_) (fun c13 => ?_)
    · skip
      obtain ⟨j, hj, rfl⟩ := x_ix_i c13
      have jcl := nI_clamp (show j < 2 ^ 31 by omega)
      refine w_aload_n s61_18 rfl ?_
      refine w_aload_n s61_19 rfl ?_
      refine w_getf s61_20 hx.o rfl ?_
      refine w_iload_n s61_23 rfl ?_
      refine w_callV1r s61_24 (hx.l 3 (by decide)) ow184 mc61_184 rfl rfl (hx.get 3 (by decide) (i) (show (i) < cc 28 by omega)) ?_
      refine w_cast s61_27 (hx.cr (i) (by omega)) ?_
      refine w_iload_n s61_30 rfl ?_
      refine w_callV2r s61_31 hx.o ow95 mc61_95 rfl rfl (c95 hx iv (i) (j) (by omega) (by omega)) ?_
      refine w_iret s61_34 rk61 ?_
      exact ⟨by simp [x_readyA, tn, *], rfl⟩
    · skip
      refine w_iconst (v := (-1)) s61_16 rfl ?_
      refine w_iret s61_17 rk61 ?_
      exact ⟨by simp [x_readyA, tn, *], rfl⟩
theorem c63 {h0 h : am_H} {a b : Nat} {cc : Nat → Nat} {aa : Nat → Nat → Int32} {P : x_P} {D : x_D} (hx : XL h0 a b h cc aa P D) (iv : IV cc aa) (n q : Int32) : am_rd 63 [.ref 3, .int n, .int q] h (.int (x_cntA cc aa n q)) := by
  have n0 := iv.n0
  have n2 := iv.n2
  have n3 := iv.n3
  have n7 := iv.n7
  have n8 := iv.n8
  have n16 := iv.n16
  have n20 := iv.n20
  have n28 := iv.n28
  have n31 := iv.n31
  have n38 := iv.n38
  have n45 := iv.n45
  show am_wp _ (_, [_, _, _], _) _ _
  refine w_aload_n s63_0 rfl ?_
  refine w_iload_n s63_1 rfl ?_
  refine w_callV1r s63_2 hx.o ow84 mc63_84 rfl rfl (c84 hx iv _) ?_
  refine w_ifeqB s63_5 rfl  (fun c5 => ?_) (fun c5 => ?_)
  · skip
    refine w_iconst (v := (-1)) s63_16 rfl ?_
    refine w_iret s63_17 rk63 ?_
    exact ⟨by simp [x_cntA, tn, *], rfl⟩
  · skip
    obtain ⟨i, hi, rfl⟩ := x_ix_i c5
    have icl := nI_clamp (show i < 2 ^ 31 by omega)
    refine w_aload_n s63_8 rfl ?_
    refine w_iload_n s63_9 rfl ?_
    refine w_callV1r s63_10 hx.o ow83 mc63_83 rfl rfl (c83 hx iv _) ?_
    refine w_ifneB s63_13 rfl  (fun c13 => ?_) (fun c13 => ?_)
    · skip
      obtain ⟨j, hj, rfl⟩ := x_ix_i c13
      have jcl := nI_clamp (show j < 2 ^ 31 by omega)
      refine w_aload_n s63_18 rfl ?_
      refine w_getf s63_19 hx.o rfl ?_
      refine w_iload_n s63_22 rfl ?_
      refine w_callV1r s63_23 (hx.l 2 (by decide)) ow184 mc63_184 rfl rfl (hx.get 2 (by decide) (i) (show (i) < cc 20 by omega)) ?_
      refine w_cast s63_26 (hx.no (i) (by omega)) ?_
      refine w_getf s63_29 (hx.no (i) (by omega)) rfl ?_
      refine w_iload_n s63_32 rfl ?_
      refine w_ialdV (y := j) (v := x_cn aa (nI i) (nI j) (cc 31)) s63_33 (hx.ct (i) (by omega)) (by omega) (by decide) (x_cnr_n (by omega)) ?_
      refine w_iret s63_34 rk63 ?_
      exact ⟨by simp [x_cntA, tn, *], rfl⟩
    · skip
      refine w_iconst (v := (-1)) s63_16 rfl ?_
      refine w_iret s63_17 rk63 ?_
      exact ⟨by simp [x_cntA, tn, *], rfl⟩
theorem c64 {h0 h : am_H} {a b : Nat} {cc : Nat → Nat} {aa : Nat → Nat → Int32} {P : x_P} {D : x_D} (hx : XL h0 a b h cc aa P D) (iv : IV cc aa) (i w : Int32) : am_rd 64 [.ref 3, .int i, .int w] h (.int (x_ctold cc aa i w)) := by
  have n0 := iv.n0
  have n2 := iv.n2
  have n3 := iv.n3
  have n7 := iv.n7
  have n8 := iv.n8
  have n16 := iv.n16
  have n20 := iv.n20
  have n28 := iv.n28
  have n31 := iv.n31
  have n38 := iv.n38
  have n45 := iv.n45
  show am_wp _ (_, [_, _, _, _], _) _ _
  refine w_iload_n s64_0 rfl ?_
  refine w_iconst (v := 0) s64_1 rfl ?_
  refine w_iconst (v := 5) s64_2 rfl ?_
  refine w_callS3r s64_3 mc64_77 rfl rfl (c77 _ _ _ _) ?_
  refine w_ifneB s64_6 rfl  (fun c6 => ?_) (fun c6 => ?_)
  · skip
    refine w_iload_n s64_11 rfl ?_
    refine w_iflt s64_12 rfl  (fun c12 => ?_) (fun c12 => ?_)
    · skip
      have hxi : x_ix (cc 31) i = false := x_ix_f1 c12
      refine w_bipush (v := (-9)) s64_26 rfl ?_
      refine w_iret s64_28 rk64 ?_
      first | (refine ⟨?_, rfl⟩; simp [x_ctold, x_tc, tn, *]; done) | (refine ⟨?_, rfl⟩; rw [← x_tb (iv.yk j (by omega))]; simp [x_ctold, x_tc, tn, *]; done)
    · skip
      refine w_iload_n s64_15 rfl ?_
      refine w_aload_n s64_16 rfl ?_
      refine w_getf s64_17 hx.o rfl ?_
      refine w_callV0r s64_20 (hx.l 4 (by decide)) ow181 mc64_181 rfl rfl (hx.size 4 (by decide)) ?_
      refine w_icmplt s64_23 rfl  (fun c23 => ?_) (fun c23 => ?_)
      · skip
        have hxi : x_ix (cc 31) i = true := x_ix_t (by omega) c12 (Int32.not_le.mpr c23)
        obtain ⟨j, hj, rfl⟩ := x_ix_i hxi
        have jcl := nI_clamp (show j < 2 ^ 31 by omega)
        refine w_aload_n s64_29 rfl ?_
        refine w_getf s64_30 hx.o rfl ?_
        refine w_iload_n s64_33 rfl ?_
        refine w_callV1r s64_34 (hx.l 4 (by decide)) ow184 mc64_184 rfl rfl (hx.get 4 (by decide) (j) (show (j) < cc 31 by omega)) ?_
        refine w_cast s64_37 (hx.cy (j) (by omega)) ?_
        refine w_astore_n s64_40 rfl ?_
        show am_wp _ (_, [_, _, _, _], _) _ _
        refine w_iload_n s64_41 rfl ?_
        rcases x_sw w 0 4 (by decide) (by decide) with hq | ⟨j42, hj1, hj2, hj3⟩
        · skip
          refine w_tswO s64_42 hq rfl ?_
          have d0 : ¬ w = 0 := fun e => by rw [e] at hq; revert hq; decide
          have d1 : ¬ w = 1 := fun e => by rw [e] at hq; revert hq; decide
          have d2 : ¬ w = 2 := fun e => by rw [e] at hq; revert hq; decide
          have d3 : ¬ w = 3 := fun e => by rw [e] at hq; revert hq; decide
          have d4 : ¬ w = 4 := fun e => by rw [e] at hq; revert hq; decide
          refine w_aload_n s64_101 rfl ?_
          refine w_getf s64_102 (hx.cy (j) (by omega)) rfl ?_
          rw [x_tb (iv.yk j (by omega))]
          refine w_callS1r s64_105 mc64_88 rfl rfl (c88 _ _) ?_
          refine w_iret s64_108 rk64 ?_
          first | (refine ⟨?_, rfl⟩; simp [x_ctold, x_tc, tn, *]; done) | (refine ⟨?_, rfl⟩; rw [← x_tb (iv.yk j (by omega))]; simp [x_ctold, x_tc, tn, *]; done)
        · skip
          obtain (rfl | rfl | rfl | rfl | rfl) : j42 = 0 ∨ j42 = 1 ∨ j42 = 2 ∨ j42 = 3 ∨ j42 = 4 := by omega
          · skip
            have hj4 : w = 0 := hj3
            clear hj3
            subst hj4
            refine w_tswI (n := 0) s64_42 (by decide) rfl rfl rfl ?_
            refine w_aload_n s64_76 rfl ?_
            refine w_getf s64_77 (hx.cy (j) (by omega)) rfl ?_
            refine w_iret s64_80 rk64 ?_
            first | (refine ⟨?_, rfl⟩; simp [x_ctold, x_tc, tn, *]; done) | (refine ⟨?_, rfl⟩; rw [← x_tb (iv.yk j (by omega))]; simp [x_ctold, x_tc, tn, *]; done)
          · skip
            have hj4 : w = 1 := hj3
            clear hj3
            subst hj4
            refine w_tswI (n := 1) s64_42 (by decide) rfl rfl rfl ?_
            refine w_aload_n s64_81 rfl ?_
            refine w_getf s64_82 (hx.cy (j) (by omega)) rfl ?_
            refine w_iret s64_85 rk64 ?_
            first | (refine ⟨?_, rfl⟩; simp [x_ctold, x_tc, tn, *]; done) | (refine ⟨?_, rfl⟩; rw [← x_tb (iv.yk j (by omega))]; simp [x_ctold, x_tc, tn, *]; done)
          · skip
            have hj4 : w = 2 := hj3
            clear hj3
            subst hj4
            refine w_tswI (n := 2) s64_42 (by decide) rfl rfl rfl ?_
            refine w_aload_n s64_86 rfl ?_
            refine w_getf s64_87 (hx.cy (j) (by omega)) rfl ?_
            refine w_iret s64_90 rk64 ?_
            first | (refine ⟨?_, rfl⟩; simp [x_ctold, x_tc, tn, *]; done) | (refine ⟨?_, rfl⟩; rw [← x_tb (iv.yk j (by omega))]; simp [x_ctold, x_tc, tn, *]; done)
          · skip
            have hj4 : w = 3 := hj3
            clear hj3
            subst hj4
            refine w_tswI (n := 3) s64_42 (by decide) rfl rfl rfl ?_
            refine w_aload_n s64_91 rfl ?_
            refine w_getf s64_92 (hx.cy (j) (by omega)) rfl ?_
            refine w_iret s64_95 rk64 ?_
            first | (refine ⟨?_, rfl⟩; simp [x_ctold, x_tc, tn, *]; done) | (refine ⟨?_, rfl⟩; rw [← x_tb (iv.yk j (by omega))]; simp [x_ctold, x_tc, tn, *]; done)
          · skip
            have hj4 : w = 4 := hj3
            clear hj3
            subst hj4
            refine w_tswI (n := 4) s64_42 (by decide) rfl rfl rfl ?_
            refine w_aload_n s64_96 rfl ?_
            refine w_getf s64_97 (hx.cy (j) (by omega)) rfl ?_
            refine w_iret s64_100 rk64 ?_
            first | (refine ⟨?_, rfl⟩; simp [x_ctold, x_tc, tn, *]; done) | (refine ⟨?_, rfl⟩; rw [← x_tb (iv.yk j (by omega))]; simp [x_ctold, x_tc, tn, *]; done)
      · skip
        have hxi : x_ix (cc 31) i = false := x_ix_f2 (by omega) (Int32.not_lt.mp c23)
        refine w_bipush (v := (-9)) s64_26 rfl ?_
        refine w_iret s64_28 rk64 ?_
        first | (refine ⟨?_, rfl⟩; simp [x_ctold, x_tc, tn, *]; done) | (refine ⟨?_, rfl⟩; rw [← x_tb (iv.yk j (by omega))]; simp [x_ctold, x_tc, tn, *]; done)
  · skip
    refine w_iconst (v := (-1)) s64_9 rfl ?_
    refine w_iret s64_10 rk64 ?_
    first | (refine ⟨?_, rfl⟩; simp [x_ctold, x_tc, tn, *]; done) | (refine ⟨?_, rfl⟩; rw [← x_tb (iv.yk j (by omega))]; simp [x_ctold, x_tc, tn, *]; done)
theorem c65 {h0 h : am_H} {a b : Nat} {cc : Nat → Nat} {aa : Nat → Nat → Int32} {P : x_P} {D : x_D} (hx : XL h0 a b h cc aa P D) (iv : IV cc aa) (q : Int32) : am_rd 65 [.ref 3, .int q] h (.int (x_due cc aa q)) := by
  have n0 := iv.n0
  have n2 := iv.n2
  have n3 := iv.n3
  have n7 := iv.n7
  have n8 := iv.n8
  have n16 := iv.n16
  have n20 := iv.n20
  have n28 := iv.n28
  have n31 := iv.n31
  have n38 := iv.n38
  have n45 := iv.n45
  show am_wp _ (_, [_, _, _, _], _) _ _
  refine w_aload_n s65_0 rfl ?_
  refine w_iload_n s65_1 rfl ?_
  refine w_callV1r s65_2 hx.o ow83 mc65_83 rfl rfl (c83 hx iv _) ?_
  refine w_ifneB s65_5 rfl  (fun c5 => ?_) (fun c5 => ?_)
  · skip
    obtain ⟨j, hj, rfl⟩ := x_ix_i c5
    have jcl := nI_clamp (show j < 2 ^ 31 by omega)
    refine w_iconst (v := 0) s65_10 rfl ?_
    refine w_istore_n s65_11 rfl ?_
    show am_wp _ (_, [_, _, _, _], _) _ _
    refine w_iconst (v := 0) s65_12 rfl ?_
    refine w_istore_n s65_13 rfl ?_
    show am_wp _ (_, [_, _, _, _], _) _ _
    refine am_lp (n := cc 20) (P := fun k => am_wp 65 (14, [_, _, some (.int (x_sum (fun k => am_bi (x_wc cc aa k (nI j))) k)), some (.int (nI k))], []) h _) ?_ 0 (Nat.zero_le _)
    intro k hk ihk
    show am_wp _ (_, [_, _, _, _], _) _ _
    refine w_iload_n s65_14 rfl ?_
    refine w_aload_n s65_15 rfl ?_
    refine w_getf s65_16 hx.o rfl ?_
    refine w_callV0r s65_19 (hx.l 2 (by decide)) ow181 mc65_181 rfl rfl (hx.size 2 (by decide)) ?_
    refine w_icmpgeN (x := k) (y := cc 20) s65_22 rfl (by omega) (by omega)  (fun c22 => ?_) (fun c22 => ?_)
    · skip
      have e : k = cc 20 := by omega
      subst e
      refine w_iload_n s65_53 rfl ?_
      refine w_iret s65_54 rk65 ?_
      exact ⟨by simp [x_due, tn, *], rfl⟩
    · skip
      refine w_aload_n s65_25 rfl ?_
      refine w_aload_n s65_26 rfl ?_
      refine w_getf s65_27 hx.o rfl ?_
      refine w_iload_n s65_30 rfl ?_
      refine w_callV1r s65_31 (hx.l 2 (by decide)) ow184 mc65_184 rfl rfl (hx.get 2 (by decide) (k) (show (k) < cc 20 by omega)) ?_
      refine w_cast s65_34 (hx.no (k) (by omega)) ?_
      refine w_iload_n s65_37 rfl ?_
      refine w_callV2r s65_38 hx.o ow97 mc65_97 rfl rfl (c97 hx iv (k) (by omega) (j) (by omega)) ?_
      refine w_ifeqB s65_41 rfl  (fun c41 => ?_) (fun c41 => ?_)
      · skip
        refine w_iinc s65_47 rfl (nI_inc (k)) rfl ?_
        show am_wp _ (_, [_, _, _, _], _) _ _
        refine w_goto s65_50 rfl ?_
        refine am_wp_l (am_cons rfl (am_cons rfl (am_cons (am_si ?_) (am_cons rfl rfl)))) (ihk (by omega))
        all_goals first | (clear ihk; simp [x_sum_s, am_bi, *]; done) | (clear ihk; simp_all [x_sum_s, am_bi]; done)
      · skip
        refine w_iinc s65_44 rfl rfl rfl ?_
        show am_wp _ (_, [_, _, _, _], _) _ _
        refine w_iinc s65_47 rfl (nI_inc (k)) rfl ?_
        show am_wp _ (_, [_, _, _, _], _) _ _
        refine w_goto s65_50 rfl ?_
        refine am_wp_l (am_cons rfl (am_cons rfl (am_cons (am_si ?_) (am_cons rfl rfl)))) (ihk (by omega))
        all_goals first | (clear ihk; simp [x_sum_s, am_bi, *]; done) | (clear ihk; simp_all [x_sum_s, am_bi]; done)
  · skip
    refine w_iconst (v := (-1)) s65_8 rfl ?_
    refine w_iret s65_9 rk65 ?_
    exact ⟨by simp [x_due, tn, *], rfl⟩
theorem c66 {h0 h : am_H} {a b : Nat} {cc : Nat → Nat} {aa : Nat → Nat → Int32} {P : x_P} {D : x_D} (hx : XL h0 a b h cc aa P D) (iv : IV cc aa) (q i : Int32) : am_rd 66 [.ref 3, .int q, .int i] h (.int (x_dueAt cc aa q i)) := by
  have n0 := iv.n0
  have n2 := iv.n2
  have n3 := iv.n3
  have n7 := iv.n7
  have n8 := iv.n8
  have n16 := iv.n16
  have n20 := iv.n20
  have n28 := iv.n28
  have n31 := iv.n31
  have n38 := iv.n38
  have n45 := iv.n45
  show am_wp _ (_, [_, _, _, _, _], _) _ _
  refine w_aload_n s66_0 rfl ?_
  refine w_iload_n s66_1 rfl ?_
  refine w_callV1r s66_2 hx.o ow83 mc66_83 rfl rfl (c83 hx iv _) ?_
  refine w_ifneB s66_5 rfl  (fun c5 => ?_) (fun c5 => ?_)
  · skip
    obtain ⟨j, hj, rfl⟩ := x_ix_i c5
    have jcl := nI_clamp (show j < 2 ^ 31 by omega)
    refine w_iconst (v := 0) s66_10 rfl ?_
    refine w_istore_n s66_11 rfl ?_
    show am_wp _ (_, [_, _, _, _, _], _) _ _
    refine w_iconst (v := 0) s66_12 rfl ?_
    refine w_istore s66_13 rfl ?_
    show am_wp _ (_, [_, _, _, _, _], _) _ _
    refine am_lp (n := cc 20) (P := fun k => x_any (x_np (fun k => x_wc cc aa k (nI j)) i) k = false → am_wp 66 (15, [_, _, _, some (.int (nI (x_ct (fun k => x_wc cc aa k (nI j)) k))), some (.int (nI k))], []) h _) ?_ 0 (Nat.zero_le _) rfl
    intro k hk ihk hA
    show am_wp _ (_, [_, _, _, _, _], _) _ _
    refine w_iload s66_15 rfl ?_
    refine w_aload_n s66_17 rfl ?_
    refine w_getf s66_18 hx.o rfl ?_
    refine w_callV0r s66_21 (hx.l 2 (by decide)) ow181 mc66_181 rfl rfl (hx.size 2 (by decide)) ?_
    refine w_icmpgeN (x := k) (y := cc 20) s66_24 rfl (by omega) (by omega)  (fun c24 => ?_) (fun c24 => ?_)
    · skip
      have e : k = cc 20 := by omega
      subst e
      have hn9 : x_nth (fun k => x_wc cc aa k (nI j)) (cc 20) i = -9 := x_first_f hA
      refine w_bipush (v := (-9)) s66_64 rfl ?_
      refine w_iret s66_66 rk66 ?_
      exact ⟨by simp [x_dueAt, *], rfl⟩
    · skip
      have hct := x_ct_le (fun k => x_wc cc aa k (nI j)) k
      refine w_aload_n s66_27 rfl ?_
      refine w_aload_n s66_28 rfl ?_
      refine w_getf s66_29 hx.o rfl ?_
      refine w_iload s66_32 rfl ?_
      refine w_callV1r s66_34 (hx.l 2 (by decide)) ow184 mc66_184 rfl rfl (hx.get 2 (by decide) (k) (show (k) < cc 20 by omega)) ?_
      refine w_cast s66_37 (hx.no (k) (by omega)) ?_
      refine w_iload_n s66_40 rfl ?_
      refine w_callV2r s66_41 hx.o ow97 mc66_97 rfl rfl (c97 hx iv (k) (by omega) (j) (by omega)) ?_
      refine w_ifeqB s66_44 rfl  (fun c44 => ?_) (fun c44 => ?_)
      · skip
        have hnp : x_np (fun k => x_wc cc aa k (nI j)) i k = false := by unfold x_np; simp only [c44]; rfl
        have hcs : x_ct (fun k => x_wc cc aa k (nI j)) (k + 1) = x_ct (fun k => x_wc cc aa k (nI j)) k := by rw [x_ct_s]; simp [c44]
        refine w_iinc s66_58 rfl (nI_inc (k)) rfl ?_
        show am_wp _ (_, [_, _, _, _, _], _) _ _
        refine w_goto s66_61 rfl ?_
        have ew := ihk (by omega) (by rw [x_any_s, hA, hnp]; rfl)
        rw [hcs] at ew
        exact ew
      · skip
        skip
        refine w_iload_n s66_47 rfl ?_
        refine w_iload_n s66_48 rfl ?_
        refine w_icmpne s66_49 rfl  (fun c49 => ?_) (fun c49 => ?_)
        · skip
          have hnp : x_np (fun k => x_wc cc aa k (nI j)) i k = false := by unfold x_np; rw [decide_eq_false c49, Bool.and_false]
          have hcs : x_ct (fun k => x_wc cc aa k (nI j)) (k + 1) = x_ct (fun k => x_wc cc aa k (nI j)) k + 1 := by rw [x_ct_s]; simp [c44]
          refine w_iinc s66_55 rfl (nI_inc ((x_ct (fun k => x_wc cc aa k (nI j)) k))) rfl ?_
          show am_wp _ (_, [_, _, _, _, _], _) _ _
          refine w_iinc s66_58 rfl (nI_inc (k)) rfl ?_
          show am_wp _ (_, [_, _, _, _, _], _) _ _
          refine w_goto s66_61 rfl ?_
          have ew := ihk (by omega) (by rw [x_any_s, hA, hnp]; rfl)
          rw [hcs] at ew
          exact ew
        · skip
          have hnp : x_np (fun k => x_wc cc aa k (nI j)) i k = true := by unfold x_np; simp only [c44, decide_eq_true c49]; rfl
          refine w_iload s66_52 rfl ?_
          refine w_iret s66_54 rk66 ?_
          have hnk : x_nth (fun k => x_wc cc aa k (nI j)) (cc 20) i = nI k := x_first_t hA hnp _ (by omega)
          exact ⟨by simp [x_dueAt, *], rfl⟩
  · skip
    refine w_iconst (v := (-1)) s66_8 rfl ?_
    refine w_iret s66_9 rk66 ?_
    exact ⟨by simp [x_dueAt, *], rfl⟩
theorem c68 {h0 h : am_H} {a b : Nat} {cc : Nat → Nat} {aa : Nat → Nat → Int32} {P : x_P} {D : x_D} (hx : XL h0 a b h cc aa P D) (iv : IV cc aa) (p n : Int32) : am_rd 68 [.ref 3, .int p, .int n] h (.int (x_heardA cc aa p n)) := by
  have n0 := iv.n0
  have n2 := iv.n2
  have n3 := iv.n3
  have n7 := iv.n7
  have n8 := iv.n8
  have n16 := iv.n16
  have n20 := iv.n20
  have n28 := iv.n28
  have n31 := iv.n31
  have n38 := iv.n38
  have n45 := iv.n45
  show am_wp _ (_, [_, _, _], _) _ _
  refine w_iload_n s68_0 rfl ?_
  refine w_callS1r s68_1 mc68_82 rfl rfl (c82 _ _) ?_
  refine w_ifeqB s68_4 rfl  (fun c4 => ?_) (fun c4 => ?_)
  · skip
    refine w_iconst (v := (-1)) s68_15 rfl ?_
    refine w_iret s68_16 rk68 ?_
    exact ⟨by simp [x_heardA, tn, *], rfl⟩
  · skip
    refine w_aload_n s68_7 rfl ?_
    refine w_iload_n s68_8 rfl ?_
    refine w_callV1r s68_9 hx.o ow84 mc68_84 rfl rfl (c84 hx iv _) ?_
    refine w_ifneB s68_12 rfl  (fun c12 => ?_) (fun c12 => ?_)
    · skip
      refine w_aload_n s68_17 rfl ?_
      refine w_iload_n s68_18 rfl ?_
      refine w_iload_n s68_19 rfl ?_
      refine w_callV2r s68_20 hx.o ow98 mc68_98 rfl rfl (c98 hx iv _ _) ?_
      refine w_iret s68_23 rk68 ?_
      exact ⟨by simp [x_heardA, tn, *], rfl⟩
    · skip
      refine w_iconst (v := (-1)) s68_15 rfl ?_
      refine w_iret s68_16 rk68 ?_
      exact ⟨by simp [x_heardA, tn, *], rfl⟩
theorem c69 {h0 h : am_H} {a b : Nat} {cc : Nat → Nat} {aa : Nat → Nat → Int32} {P : x_P} {D : x_D} (hx : XL h0 a b h cc aa P D) (iv : IV cc aa) (n k : Int32) : am_rd 69 [.ref 3, .int n, .int k] h (.int (x_hearers cc aa n k)) := by
  have n0 := iv.n0
  have n2 := iv.n2
  have n3 := iv.n3
  have n7 := iv.n7
  have n8 := iv.n8
  have n16 := iv.n16
  have n20 := iv.n20
  have n28 := iv.n28
  have n31 := iv.n31
  have n38 := iv.n38
  have n45 := iv.n45
  show am_wp _ (_, [_, _, _, _, _], _) _ _
  refine w_aload_n s69_0 rfl ?_
  refine w_iload_n s69_1 rfl ?_
  refine w_callV1r s69_2 hx.o ow84 mc69_84 rfl rfl (c84 hx iv _) ?_
  refine w_ifeqB s69_5 rfl  (fun c5 => ?_) (fun c5 => ?_)
  · skip
    refine w_iconst (v := (-1)) s69_18 rfl ?_
    refine w_iret s69_19 rk69 ?_
    exact ⟨by simp [x_hearers, *], rfl⟩
  · skip
    refine w_iload_n s69_8 rfl ?_
    refine w_iconst (v := 1) s69_9 rfl ?_
    refine w_bipush (v := 9) s69_10 rfl ?_
    refine w_callS3r s69_12 mc69_77 rfl rfl (c77 _ _ _ _) ?_
    refine w_ifneB s69_15 rfl  (fun c15 => ?_) (fun c15 => ?_)
    · skip
      refine w_iconst (v := 0) s69_20 rfl ?_
      refine w_istore_n s69_21 rfl ?_
      show am_wp _ (_, [_, _, _, _, _], _) _ _
      refine w_iconst (v := 0) s69_22 rfl ?_
      refine w_istore s69_23 rfl ?_
      show am_wp _ (_, [_, _, _, _, _], _) _ _
      refine am_lp (n := 10) (P := fun p => am_wp 69 (25, [_, _, _, some (.int (x_hr cc aa n k p)), some (.int (nI p))], []) h _) ?_ 0 (Nat.zero_le _)
      intro p hp ihp
      show am_wp _ (_, [_, _, _, _, _], _) _ _
      refine w_iload s69_25 rfl ?_
      refine w_bipush (v := 10) s69_27 rfl ?_
      refine w_icmpgeN (x := p) (y := 10) s69_29 rfl (by omega) (by omega)  (fun c29 => ?_) (fun c29 => ?_)
      · skip
        have e : p = 10 := by omega
        subst e
        refine w_iload_n s69_56 rfl ?_
        refine w_iret s69_57 rk69 ?_
        exact ⟨by simp [x_hearers, *], rfl⟩
      · skip
        refine w_aload_n s69_32 rfl ?_
        refine w_iload s69_33 rfl ?_
        refine w_iload_n s69_35 rfl ?_
        refine w_callV2r s69_36 hx.o ow98 mc69_98 rfl rfl (c98 hx iv _ _) ?_
        refine w_iload_n s69_39 rfl ?_
        refine w_icmplt s69_40 rfl  (fun c40 => ?_) (fun c40 => ?_)
        · skip
          refine w_iinc s69_50 rfl (nI_inc (p)) rfl ?_
          show am_wp _ (_, [_, _, _, _, _], _) _ _
          refine w_goto s69_53 rfl ?_
          refine am_wp_l (am_cons rfl (am_cons rfl (am_cons rfl (am_cons (am_si ?_) (am_cons rfl rfl))))) (ihp (by omega))
          all_goals first | (clear ihp; simp [x_hr_s, x_hrf, *]; done) | (clear ihp; simp_all [x_hr_s, x_hrf]; done)
        · skip
          refine w_iload_n s69_43 rfl ?_
          refine w_iconst (v := 1) s69_44 rfl ?_
          refine w_iload s69_45 rfl ?_
          refine w_ishl s69_47 rfl ?_
          refine w_ior s69_48 rfl ?_
          refine w_istore_n s69_49 rfl ?_
          show am_wp _ (_, [_, _, _, _, _], _) _ _
          refine w_iinc s69_50 rfl (nI_inc (p)) rfl ?_
          show am_wp _ (_, [_, _, _, _, _], _) _ _
          refine w_goto s69_53 rfl ?_
          refine am_wp_l (am_cons rfl (am_cons rfl (am_cons rfl (am_cons (am_si ?_) (am_cons rfl rfl))))) (ihp (by omega))
          all_goals first | (clear ihp; simp [x_hr_s, x_hrf, *]; done) | (clear ihp; simp_all [x_hr_s, x_hrf]; done)
    · skip
      refine w_iconst (v := (-1)) s69_18 rfl ?_
      refine w_iret s69_19 rk69 ?_
      exact ⟨by simp [x_hearers, *], rfl⟩
theorem c18 {h0 h : am_H} {a b : Nat} {cc : Nat → Nat} {aa : Nat → Nat → Int32} {P : x_P} {D : x_D} (hx : XL h0 a b h cc aa P D) (iv : IV cc aa) (i : Int32) : am_rd 18 [.ref 22, .int i] h (.int (x_roundAt cc aa i)) := by
  have n0 := iv.n0
  have n2 := iv.n2
  have n3 := iv.n3
  have n7 := iv.n7
  have n8 := iv.n8
  have n16 := iv.n16
  have n20 := iv.n20
  have n28 := iv.n28
  have n31 := iv.n31
  have n38 := iv.n38
  have n45 := iv.n45
  show am_wp _ (_, [_, _], _) _ _
  refine w_iload_n s18_0 rfl ?_
  refine w_iflt s18_1 rfl  (fun c1 => ?_) (fun c1 => ?_)
  · skip
    have hxi : x_ix (cc 45) i = false := x_ix_f1 c1
    refine w_bipush (v := (-9)) s18_21 rfl ?_
    refine w_iret s18_23 rk18 ?_
    exact ⟨by simp [x_roundAt, tn, *], rfl⟩
  · skip
    refine w_iload_n s18_4 rfl ?_
    refine w_aload_n s18_5 rfl ?_
    refine w_getf s18_6 hx.rd rfl ?_
    refine w_icmpge s18_9 rfl  (fun c9 => ?_) (fun c9 => ?_)
    · skip
      have hxi : x_ix (cc 45) i = false := x_ix_f2 (by omega) c9
      refine w_bipush (v := (-9)) s18_21 rfl ?_
      refine w_iret s18_23 rk18 ?_
      exact ⟨by simp [x_roundAt, tn, *], rfl⟩
    · skip
      have hxi : x_ix (cc 45) i = true := x_ix_t (by omega) c1 c9
      obtain ⟨j, hj, rfl⟩ := x_ix_i hxi
      have jcl := nI_clamp (show j < 2 ^ 31 by omega)
      refine w_aload_n s18_12 rfl ?_
      refine w_getf s18_13 hx.rd rfl ?_
      refine w_iload_n s18_16 rfl ?_
      refine w_ialdN (y := j) s18_17 hx.od (by omega) (by decide) ?_
      refine w_goto s18_18 rfl ?_
      refine w_iret s18_23 rk18 ?_
      exact ⟨by simp [x_roundAt, tn, *], rfl⟩
theorem c71 {h0 h : am_H} {a b : Nat} {cc : Nat → Nat} {aa : Nat → Nat → Int32} {P : x_P} {D : x_D} (hx : XL h0 a b h cc aa P D) (iv : IV cc aa) (i : Int32) : am_rd 71 [.ref 3, .int i] h (.int (x_roundAt cc aa i)) := by
  have n0 := iv.n0
  have n2 := iv.n2
  have n3 := iv.n3
  have n7 := iv.n7
  have n8 := iv.n8
  have n16 := iv.n16
  have n20 := iv.n20
  have n28 := iv.n28
  have n31 := iv.n31
  have n38 := iv.n38
  have n45 := iv.n45
  show am_wp _ (_, [_, _], _) _ _
  refine w_aload_n s71_0 rfl ?_
  refine w_getf s71_1 hx.o rfl ?_
  refine w_iload_n s71_4 rfl ?_
  refine w_callV1r s71_5 hx.rd ow18 mc71_18 rfl rfl (c18 hx iv _) ?_
  refine w_iret s71_8 rk71 ?_
  exact ⟨rfl, rfl⟩
theorem c73 {h0 h : am_H} {a b : Nat} {cc : Nat → Nat} {aa : Nat → Nat → Int32} {P : x_P} {D : x_D} (hx : XL h0 a b h cc aa P D) (iv : IV cc aa) (w : Int32) : am_rd 73 [.ref 3, .int w] h (.int (x_count cc w)) := by
  have n0 := iv.n0
  have n2 := iv.n2
  have n3 := iv.n3
  have n7 := iv.n7
  have n8 := iv.n8
  have n16 := iv.n16
  have n20 := iv.n20
  have n28 := iv.n28
  have n31 := iv.n31
  have n38 := iv.n38
  have n45 := iv.n45
  show am_wp _ (_, [_, _], _) _ _
  refine w_iload_n s73_0 rfl ?_
  rcases x_sw w 0 6 (by decide) (by decide) with hq | ⟨j1, hj1, hj2, hj3⟩
  · skip
    refine w_tswO s73_1 hq rfl ?_
    have hqi : x_in w 0 6 = false := x_inq (lo := 0) (hi := 6) (by decide) (by decide) hq
    refine w_iconst (v := (-1)) s73_97 rfl ?_
    refine w_iret s73_98 rk73 ?_
    first | (refine ⟨?_, rfl⟩; simp [x_count, x_counts, *]; done) | (refine ⟨?_, rfl⟩; simp [x_count, x_counts, xn, *]; done) | (refine ⟨?_, rfl⟩; rfl)
  · skip
    obtain (rfl | rfl | rfl | rfl | rfl | rfl | rfl) : j1 = 0 ∨ j1 = 1 ∨ j1 = 2 ∨ j1 = 3 ∨ j1 = 4 ∨ j1 = 5 ∨ j1 = 6 := by omega
    · skip
      have hj4 : w = 0 := hj3
      clear hj3
      subst hj4
      refine w_tswI (n := 0) s73_1 (by decide) rfl rfl rfl ?_
      refine w_aload_n s73_44 rfl ?_
      refine w_getf s73_45 hx.o rfl ?_
      refine w_callV0r s73_48 (hx.l 0 (by decide)) ow181 mc73_181 rfl rfl (hx.size 0 (by decide)) ?_
      refine w_iret s73_51 rk73 ?_
      first | (refine ⟨?_, rfl⟩; simp [x_count, x_counts, *]; done) | (refine ⟨?_, rfl⟩; simp [x_count, x_counts, xn, *]; done) | (refine ⟨?_, rfl⟩; rfl)
    · skip
      have hj4 : w = 1 := hj3
      clear hj3
      subst hj4
      refine w_tswI (n := 1) s73_1 (by decide) rfl rfl rfl ?_
      refine w_aload_n s73_52 rfl ?_
      refine w_getf s73_53 hx.o rfl ?_
      refine w_callV0r s73_56 (hx.l 3 (by decide)) ow181 mc73_181 rfl rfl (hx.size 3 (by decide)) ?_
      refine w_iret s73_59 rk73 ?_
      first | (refine ⟨?_, rfl⟩; simp [x_count, x_counts, *]; done) | (refine ⟨?_, rfl⟩; simp [x_count, x_counts, xn, *]; done) | (refine ⟨?_, rfl⟩; rfl)
    · skip
      have hj4 : w = 2 := hj3
      clear hj3
      subst hj4
      refine w_tswI (n := 2) s73_1 (by decide) rfl rfl rfl ?_
      refine w_aload_n s73_60 rfl ?_
      refine w_getf s73_61 hx.o rfl ?_
      refine w_callV0r s73_64 (hx.l 2 (by decide)) ow181 mc73_181 rfl rfl (hx.size 2 (by decide)) ?_
      refine w_iret s73_67 rk73 ?_
      first | (refine ⟨?_, rfl⟩; simp [x_count, x_counts, *]; done) | (refine ⟨?_, rfl⟩; simp [x_count, x_counts, xn, *]; done) | (refine ⟨?_, rfl⟩; rfl)
    · skip
      have hj4 : w = 3 := hj3
      clear hj3
      subst hj4
      refine w_tswI (n := 3) s73_1 (by decide) rfl rfl rfl ?_
      refine w_aload_n s73_68 rfl ?_
      refine w_getf s73_69 hx.o rfl ?_
      refine w_callV0r s73_72 (hx.l 4 (by decide)) ow181 mc73_181 rfl rfl (hx.size 4 (by decide)) ?_
      refine w_iret s73_75 rk73 ?_
      first | (refine ⟨?_, rfl⟩; simp [x_count, x_counts, *]; done) | (refine ⟨?_, rfl⟩; simp [x_count, x_counts, xn, *]; done) | (refine ⟨?_, rfl⟩; rfl)
    · skip
      have hj4 : w = 4 := hj3
      clear hj3
      subst hj4
      refine w_tswI (n := 4) s73_1 (by decide) rfl rfl rfl ?_
      refine w_aload_n s73_76 rfl ?_
      refine w_getf s73_77 hx.o rfl ?_
      refine w_iret s73_80 rk73 ?_
      first | (refine ⟨?_, rfl⟩; simp [x_count, x_counts, *]; done) | (refine ⟨?_, rfl⟩; simp [x_count, x_counts, xn, *]; done) | (refine ⟨?_, rfl⟩; rfl)
    · skip
      have hj4 : w = 5 := hj3
      clear hj3
      subst hj4
      refine w_tswI (n := 5) s73_1 (by decide) rfl rfl rfl ?_
      refine w_aload_n s73_81 rfl ?_
      refine w_getf s73_82 hx.o rfl ?_
      refine w_callV0r s73_85 (hx.l 1 (by decide)) ow181 mc73_181 rfl rfl (hx.size 1 (by decide)) ?_
      refine w_iret s73_88 rk73 ?_
      first | (refine ⟨?_, rfl⟩; simp [x_count, x_counts, *]; done) | (refine ⟨?_, rfl⟩; simp [x_count, x_counts, xn, *]; done) | (refine ⟨?_, rfl⟩; rfl)
    · skip
      have hj4 : w = 6 := hj3
      clear hj3
      subst hj4
      refine w_tswI (n := 6) s73_1 (by decide) rfl rfl rfl ?_
      refine w_aload_n s73_89 rfl ?_
      refine w_getf s73_90 hx.o rfl ?_
      refine w_getf s73_93 hx.bp rfl ?_
      refine w_iret s73_96 rk73 ?_
      first | (refine ⟨?_, rfl⟩; simp [x_count, x_counts, *]; done) | (refine ⟨?_, rfl⟩; simp [x_count, x_counts, xn, *]; done) | (refine ⟨?_, rfl⟩; rfl)
theorem c74 {h0 h : am_H} {a b : Nat} {cc : Nat → Nat} {aa : Nat → Nat → Int32} {P : x_P} {D : x_D} (hx : XL h0 a b h cc aa P D) (iv : IV cc aa) : am_rd 74 [.ref 3] h (.int (nI (cc 0))) := by
  have n0 := iv.n0
  have n2 := iv.n2
  have n3 := iv.n3
  have n7 := iv.n7
  have n8 := iv.n8
  have n16 := iv.n16
  have n20 := iv.n20
  have n28 := iv.n28
  have n31 := iv.n31
  have n38 := iv.n38
  have n45 := iv.n45
  show am_wp _ (_, [_], _) _ _
  refine w_aload_n s74_0 rfl ?_
  refine w_getf s74_1 hx.o rfl ?_
  refine w_iret s74_4 rk74 ?_
  exact ⟨rfl, rfl⟩
theorem c75 {h0 h : am_H} {a b : Nat} {cc : Nat → Nat} {aa : Nat → Nat → Int32} {P : x_P} {D : x_D} (hx : XL h0 a b h cc aa P D) (iv : IV cc aa) (f : Int32) : am_rd 75 [.ref 3, .int f] h (.int (x_finds aa f)) := by
  have n0 := iv.n0
  have n2 := iv.n2
  have n3 := iv.n3
  have n7 := iv.n7
  have n8 := iv.n8
  have n16 := iv.n16
  have n20 := iv.n20
  have n28 := iv.n28
  have n31 := iv.n31
  have n38 := iv.n38
  have n45 := iv.n45
  show am_wp _ (_, [_, _], _) _ _
  refine w_iload_n s75_0 rfl ?_
  refine w_iconst (v := 1) s75_1 rfl ?_
  refine w_iconst (v := 5) s75_2 rfl ?_
  refine w_callS3r s75_3 mc75_77 rfl rfl (c77 _ _ _ _) ?_
  refine w_ifneB s75_6 rfl  (fun c6 => ?_) (fun c6 => ?_)
  · skip
    obtain ⟨j, hj, rfl⟩ : ∃ j, j ≤ 5 ∧ f = nI j := x_in_n (by unfold x_in at c6 ⊢; rw [Bool.and_eq_true] at c6 ⊢; exact ⟨decide_eq_true (Int32.le_trans (by decide) (of_decide_eq_true c6.1)), c6.2⟩) (by decide)
    have jcl := nI_clamp (show j < 2 ^ 31 by omega)
    refine w_aload_n s75_11 rfl ?_
    refine w_getf s75_12 hx.o rfl ?_
    refine w_iload_n s75_15 rfl ?_
    refine w_ialdN (y := j) s75_16 hx.fc (by omega) (by decide) ?_
    refine w_iret s75_17 rk75 ?_
    exact ⟨by simp [x_finds, tn, *], rfl⟩
  · skip
    refine w_iconst (v := (-1)) s75_9 rfl ?_
    refine w_iret s75_10 rk75 ?_
    exact ⟨by simp [x_finds, tn, *], rfl⟩
theorem x_told_n {cc : Nat → Nat} {aa : Nat → Nat → Int32} {n w : Nat} (hn : n < cc 20) (hc : cc 20 < 2 ^ 31) (hw : w ≤ 6) : x_told cc aa (nI n) (nI w) = x_tells cc aa n (nI w) := by
  unfold x_told tn
  rw [if_pos ⟨x_ix_n hn hc, by rw [show (0 : Int32) = nI 0 from rfl, show (6 : Int32) = nI 6 from rfl, x_in_m (by decide) (by decide) (by omega)]; exact decide_eq_true (by omega)⟩, nI_clamp (by omega)]
theorem x_ctold_n {cc : Nat → Nat} {aa : Nat → Nat → Int32} {n w : Nat} (hn : n < cc 31) (hc : cc 31 < 2 ^ 31) (hw : w ≤ 5) : x_ctold cc aa (nI n) (nI w) = x_tc aa n (nI w) := by
  unfold x_ctold tn
  rw [if_pos (by rw [show (0 : Int32) = nI 0 from rfl, show (5 : Int32) = nI 5 from rfl, x_in_m (by decide) (by decide) (by omega)]; exact decide_eq_true (by omega)), if_pos (x_ix_n hn hc), nI_clamp (by omega)]
theorem x_count_n {cc : Nat → Nat} {w : Nat} (hw : w ≤ 6) : x_count cc (nI w) = x_counts cc (nI w) := by
  unfold x_count
  rw [if_pos (by rw [show (0 : Int32) = nI 0 from rfl, show (6 : Int32) = nI 6 from rfl, x_in_m (by decide) (by decide) (by omega)]; exact decide_eq_true (by omega))]
theorem c76 {h0 h : am_H} {a b : Nat} {cc : Nat → Nat} {aa : Nat → Nat → Int32} {P : x_P} {D : x_D} (hx : XL h0 a b h cc aa P D) (iv : IV cc aa) : am_rd 76 [.ref 3] h (.long (x_digest cc aa)) := by
  have n0 := iv.n0
  have n2 := iv.n2
  have n3 := iv.n3
  have n7 := iv.n7
  have n8 := iv.n8
  have n16 := iv.n16
  have n20 := iv.n20
  have n28 := iv.n28
  have n31 := iv.n31
  have n38 := iv.n38
  have n45 := iv.n45
  show am_wp _ (_, [_, _, _, _, _], _) _ _
  refine w_ldc2 (v := 17) s76_0 rfl ?_
  refine w_lstore_n s76_3 rfl ?_
  show am_wp _ (_, [_, _, _, _, _], _) _ _
  refine w_iconst (v := 0) s76_4 rfl ?_
  refine w_istore_n s76_5 rfl ?_
  show am_wp _ (_, [_, _, _, _, _], _) _ _
  refine am_wp_l (am_cons rfl (am_cons (am_sl8 ?_) (am_cons rfl (am_cons rfl (am_cons rfl rfl))))) (am_lp (n := 7) (P := fun u => am_wp 76 (6, [_, some (.long (x_d0 cc u)), _, some (.int (nI u)), _], []) h _) ?_ 0 (Nat.zero_le _))
  · simp [x_d0_0, *]
  intro u hu ihu
  show am_wp _ (_, [_, _, _, _, _], _) _ _
  refine w_iload_n s76_6 rfl ?_
  refine w_bipush (v := 6) s76_7 rfl ?_
  refine w_icmpgtN (x := u) (y := 6) s76_9 rfl (by omega) (by omega)  (fun c9 => ?_) (fun c9 => ?_)
  · skip
    have e : u = 7 := by omega
    subst e
    refine w_iconst (v := 0) s76_31 rfl ?_
    refine w_istore_n s76_32 rfl ?_
    show am_wp _ (_, [_, _, _, _, _], _) _ _
    refine am_wp_l (am_cons rfl (am_cons (am_sl8 ?_) (am_cons rfl (am_cons rfl (am_cons rfl rfl))))) (am_lp (n := cc 20) (P := fun n => ∀ v4 : Option Value, am_wp 76 (33, [_, some (.long (x_d1 cc aa n)), _, some (.int (nI n)), v4], []) h _) ?_ 0 (Nat.zero_le _) _)
    · simp [x_d1_0, *]
    intro n hn ihn v4
    show am_wp _ (_, [_, _, _, _, _], _) _ _
    refine w_iload_n s76_33 rfl ?_
    refine w_aload_n s76_34 rfl ?_
    refine w_getf s76_35 hx.o rfl ?_
    refine w_callV0r s76_38 (hx.l 2 (by decide)) ow181 mc76_181 rfl rfl (hx.size 2 (by decide)) ?_
    refine w_icmpgeN (x := n) (y := cc 20) s76_41 rfl (by omega) (by omega)  (fun c41 => ?_) (fun c41 => ?_)
    · skip
      have e : n = cc 20 := by omega
      subst e
      refine w_iconst (v := 0) s76_81 rfl ?_
      refine w_istore_n s76_82 rfl ?_
      show am_wp _ (_, [_, _, _, _, _], _) _ _
      refine am_wp_l (am_cons rfl (am_cons (am_sl8 ?_) (am_cons rfl (am_cons rfl (am_cons rfl rfl))))) (am_lp (n := cc 31) (P := fun i => ∀ v4 : Option Value, am_wp 76 (83, [_, some (.long (x_d2 cc aa i)), _, some (.int (nI i)), v4], []) h _) ?_ 0 (Nat.zero_le _) _)
      · simp [x_d2_0, *]
      intro i hi ihi v4
      show am_wp _ (_, [_, _, _, _, _], _) _ _
      refine w_iload_n s76_83 rfl ?_
      refine w_aload_n s76_84 rfl ?_
      refine w_getf s76_85 hx.o rfl ?_
      refine w_callV0r s76_88 (hx.l 4 (by decide)) ow181 mc76_181 rfl rfl (hx.size 4 (by decide)) ?_
      refine w_icmpgeN (x := i) (y := cc 31) s76_91 rfl (by omega) (by omega)  (fun c91 => ?_) (fun c91 => ?_)
      · skip
        have e : i = cc 31 := by omega
        subst e
        refine w_iconst (v := 0) s76_130 rfl ?_
        refine w_istore_n s76_131 rfl ?_
        show am_wp _ (_, [_, _, _, _, _], _) _ _
        refine am_wp_l (am_cons rfl (am_cons (am_sl8 ?_) (am_cons rfl (am_cons rfl (am_cons rfl rfl))))) (am_lp (n := cc 28) (P := fun c => am_wp 76 (132, [_, some (.long (x_d3 cc aa c)), _, some (.int (nI c)), _], []) h _) ?_ 0 (Nat.zero_le _))
        · simp [x_d3_0, *]
        intro c hc ihc
        show am_wp _ (_, [_, _, _, _, _], _) _ _
        refine w_iload_n s76_132 rfl ?_
        refine w_aload_n s76_133 rfl ?_
        refine w_getf s76_134 hx.o rfl ?_
        refine w_callV0r s76_137 (hx.l 3 (by decide)) ow181 mc76_181 rfl rfl (hx.size 3 (by decide)) ?_
        refine w_icmpgeN (x := c) (y := cc 28) s76_140 rfl (by omega) (by omega)  (fun c140 => ?_) (fun c140 => ?_)
        · skip
          have e : c = cc 28 := by omega
          subst e
          refine w_iconst (v := 0) s76_193 rfl ?_
          refine w_istore_n s76_194 rfl ?_
          show am_wp _ (_, [_, _, _, _, _], _) _ _
          refine am_wp_l (am_cons rfl (am_cons (am_sl8 ?_) (am_cons rfl (am_cons rfl (am_cons rfl rfl))))) (am_lp (n := 4) (P := fun s => am_wp 76 (195, [_, some (.long (x_d4 cc aa s)), _, some (.int (nI s)), _], []) h _) ?_ 0 (Nat.zero_le _))
          · simp [x_d4_0, *]
          intro s hs ihs
          show am_wp _ (_, [_, _, _, _, _], _) _ _
          refine w_iload_n s76_195 rfl ?_
          refine w_iconst (v := 4) s76_196 rfl ?_
          refine w_icmpgeN (x := s) (y := 4) s76_197 rfl (by omega) (by omega)  (fun c197 => ?_) (fun c197 => ?_)
          · skip
            have e : s = 4 := by omega
            subst e
            refine w_lload_n s76_217 rfl ?_
            refine w_lret s76_218 rk76 ?_
            exact ⟨rfl, rfl⟩
          · skip
            refine w_aload_n s76_200 rfl ?_
            refine w_getf s76_201 hx.o rfl ?_
            refine w_iload_n s76_204 rfl ?_
            refine w_aald (v := .ref (11 + 2 * (s))) s76_205 hx.sa (Or.inr rfl) (am_inb (show (s) < 4 by omega) (by decide)) (by rw [nI_clamp (show (s) < 2 ^ 31 by omega), if_pos (show (s) < 4 by omega)]; rfl) ?_
            refine w_lload_n s76_206 rfl ?_
            refine w_callV1r s76_207 (hx.sh (s) (by omega)) ow31 mc76_31 rfl rfl (c31 hx iv s (by omega) _) ?_
            refine w_lstore_n s76_210 rfl ?_
            show am_wp _ (_, [_, _, _, _, _], _) _ _
            refine w_iinc s76_211 rfl (nI_inc (s)) rfl ?_
            show am_wp _ (_, [_, _, _, _, _], _) _ _
            refine w_goto s76_214 rfl ?_
            refine am_wp_l (am_cons rfl (am_cons (am_sl8 ?_) (am_cons rfl (am_cons rfl (am_cons rfl rfl))))) (ihs (by omega))
            all_goals first | (clear ihs; simp [x_d4_s, *]; done) | (clear ihs; simp_all [x_d4_s]; done)
        · skip
          refine w_ldc2 (v := 31) s76_143 rfl ?_
          refine w_lload_n s76_146 rfl ?_
          refine w_lmul s76_147 rfl ?_
          refine w_aload_n s76_148 rfl ?_
          refine w_getf s76_149 hx.o rfl ?_
          refine w_iload_n s76_152 rfl ?_
          refine w_callV1r s76_153 (hx.l 3 (by decide)) ow184 mc76_184 rfl rfl (hx.get 3 (by decide) (c) (show (c) < cc 28 by omega)) ?_
          refine w_cast s76_156 (hx.cr (c) (by omega)) ?_
          refine w_getf s76_159 (hx.cr (c) (by omega)) rfl ?_
          refine w_i2l s76_162 rfl ?_
          refine w_ladd s76_163 rfl ?_
          refine w_lstore_n s76_164 rfl ?_
          show am_wp _ (_, [_, _, _, _, _], _) _ _
          refine w_ldc2 (v := 31) s76_165 rfl ?_
          refine w_lload_n s76_168 rfl ?_
          refine w_lmul s76_169 rfl ?_
          refine w_aload_n s76_170 rfl ?_
          refine w_getf s76_171 hx.o rfl ?_
          refine w_iload_n s76_174 rfl ?_
          refine w_callV1r s76_175 (hx.l 3 (by decide)) ow184 mc76_184 rfl rfl (hx.get 3 (by decide) (c) (show (c) < cc 28 by omega)) ?_
          refine w_cast s76_178 (hx.cr (c) (by omega)) ?_
          refine w_getf s76_181 (hx.cr (c) (by omega)) rfl ?_
          refine w_i2l s76_184 rfl ?_
          refine w_ladd s76_185 rfl ?_
          refine w_lstore_n s76_186 rfl ?_
          show am_wp _ (_, [_, _, _, _, _], _) _ _
          refine w_iinc s76_187 rfl (nI_inc (c)) rfl ?_
          show am_wp _ (_, [_, _, _, _, _], _) _ _
          refine w_goto s76_190 rfl ?_
          refine am_wp_l (am_cons rfl (am_cons (am_sl8 ?_) (am_cons rfl (am_cons rfl (am_cons rfl rfl))))) (ihc (by omega))
          all_goals first | (clear ihc; simp [x_d3_s, *]; done) | (clear ihc; simp_all [x_d3_s]; done)
      · skip
        refine w_iconst (v := 0) s76_94 rfl ?_
        refine w_istore s76_95 rfl ?_
        show am_wp _ (_, [_, _, _, _, _], _) _ _
        refine am_wp_l (am_cons rfl (am_cons (am_sl8 ?_) (am_cons rfl (am_cons rfl (am_cons rfl rfl))))) (am_lp (n := 6) (P := fun u => am_wp 76 (97, [_, some (.long (x_d2w aa i (x_d2 cc aa i) u)), _, _, some (.int (nI u))], []) h _) ?_ 0 (Nat.zero_le _))
        · simp [x_d2w_0, *]
        intro u hu ihu
        show am_wp _ (_, [_, _, _, _, _], _) _ _
        refine w_iload s76_97 rfl ?_
        refine w_iconst (v := 5) s76_99 rfl ?_
        refine w_icmpgtN (x := u) (y := 5) s76_100 rfl (by omega) (by omega)  (fun c100 => ?_) (fun c100 => ?_)
        · skip
          have e : u = 6 := by omega
          subst e
          refine w_iinc s76_124 rfl (nI_inc (i)) rfl ?_
          show am_wp _ (_, [_, _, _, _, _], _) _ _
          refine w_goto s76_127 rfl ?_
          refine am_wp_l (am_cons rfl (am_cons (am_sl8 ?_) (am_cons rfl (am_cons rfl (am_cons rfl rfl))))) (ihi (by omega) _)
          all_goals first | (clear ihi; simp [x_d2_s, *]; done) | (clear ihi; simp_all [x_d2_s]; done)
        · skip
          refine w_ldc2 (v := 31) s76_103 rfl ?_
          refine w_lload_n s76_106 rfl ?_
          refine w_lmul s76_107 rfl ?_
          refine w_aload_n s76_108 rfl ?_
          refine w_iload_n s76_109 rfl ?_
          refine w_iload s76_110 rfl ?_
          refine w_callV2r s76_112 hx.o ow64 mc76_64 rfl rfl (c64 hx iv _ _) ?_
          rw [x_ctold_n (show i < cc 31 by omega) (by omega) (show u ≤ 5 by omega)]
          refine w_i2l s76_115 rfl ?_
          refine w_ladd s76_116 rfl ?_
          refine w_lstore_n s76_117 rfl ?_
          show am_wp _ (_, [_, _, _, _, _], _) _ _
          refine w_iinc s76_118 rfl (nI_inc (u)) rfl ?_
          show am_wp _ (_, [_, _, _, _, _], _) _ _
          refine w_goto s76_121 rfl ?_
          refine am_wp_l (am_cons rfl (am_cons (am_sl8 ?_) (am_cons rfl (am_cons rfl (am_cons rfl rfl))))) (ihu (by omega))
          all_goals first | (clear ihu; simp [x_d2w_s, *]; done) | (clear ihu; simp_all [x_d2w_s]; done)
    · skip
      refine w_iconst (v := 0) s76_44 rfl ?_
      refine w_istore s76_45 rfl ?_
      show am_wp _ (_, [_, _, _, _, _], _) _ _
      refine am_wp_l (am_cons rfl (am_cons (am_sl8 ?_) (am_cons rfl (am_cons rfl (am_cons rfl rfl))))) (am_lp (n := 7) (P := fun u => am_wp 76 (47, [_, some (.long (x_d1w cc aa n (x_d1 cc aa n) u)), _, _, some (.int (nI u))], []) h _) ?_ 0 (Nat.zero_le _))
      · simp [x_d1w_0, *]
      intro u hu ihu
      show am_wp _ (_, [_, _, _, _, _], _) _ _
      refine w_iload s76_47 rfl ?_
      refine w_bipush (v := 6) s76_49 rfl ?_
      refine w_icmpgtN (x := u) (y := 6) s76_51 rfl (by omega) (by omega)  (fun c51 => ?_) (fun c51 => ?_)
      · skip
        have e : u = 7 := by omega
        subst e
        refine w_iinc s76_75 rfl (nI_inc (n)) rfl ?_
        show am_wp _ (_, [_, _, _, _, _], _) _ _
        refine w_goto s76_78 rfl ?_
        refine am_wp_l (am_cons rfl (am_cons (am_sl8 ?_) (am_cons rfl (am_cons rfl (am_cons rfl rfl))))) (ihn (by omega) _)
        all_goals first | (clear ihn; simp [x_d1_s, *]; done) | (clear ihn; simp_all [x_d1_s]; done)
      · skip
        refine w_ldc2 (v := 31) s76_54 rfl ?_
        refine w_lload_n s76_57 rfl ?_
        refine w_lmul s76_58 rfl ?_
        refine w_aload_n s76_59 rfl ?_
        refine w_iload_n s76_60 rfl ?_
        refine w_iload s76_61 rfl ?_
        refine w_callV2r s76_63 hx.o ow55 mc76_55 rfl rfl (c55 hx iv _ _) ?_
        rw [x_told_n (show n < cc 20 by omega) (by omega) (show u ≤ 6 by omega)]
        refine w_i2l s76_66 rfl ?_
        refine w_ladd s76_67 rfl ?_
        refine w_lstore_n s76_68 rfl ?_
        show am_wp _ (_, [_, _, _, _, _], _) _ _
        refine w_iinc s76_69 rfl (nI_inc (u)) rfl ?_
        show am_wp _ (_, [_, _, _, _, _], _) _ _
        refine w_goto s76_72 rfl ?_
        refine am_wp_l (am_cons rfl (am_cons (am_sl8 ?_) (am_cons rfl (am_cons rfl (am_cons rfl rfl))))) (ihu (by omega))
        all_goals first | (clear ihu; simp [x_d1w_s, *]; done) | (clear ihu; simp_all [x_d1w_s]; done)
  · skip
    refine w_ldc2 (v := 31) s76_12 rfl ?_
    refine w_lload_n s76_15 rfl ?_
    refine w_lmul s76_16 rfl ?_
    refine w_aload_n s76_17 rfl ?_
    refine w_iload_n s76_18 rfl ?_
    refine w_callV1r s76_19 hx.o ow73 mc76_73 rfl rfl (c73 hx iv _) ?_
    rw [x_count_n (show u ≤ 6 by omega)]
    refine w_i2l s76_22 rfl ?_
    refine w_ladd s76_23 rfl ?_
    refine w_lstore_n s76_24 rfl ?_
    show am_wp _ (_, [_, _, _, _, _], _) _ _
    refine w_iinc s76_25 rfl (nI_inc (u)) rfl ?_
    show am_wp _ (_, [_, _, _, _, _], _) _ _
    refine w_goto s76_28 rfl ?_
    refine am_wp_l (am_cons rfl (am_cons (am_sl8 ?_) (am_cons rfl (am_cons rfl (am_cons rfl rfl))))) (ihu (by omega))
    all_goals first | (clear ihu; simp [x_d0_s, *]; done) | (clear ihu; simp_all [x_d0_s]; done)
