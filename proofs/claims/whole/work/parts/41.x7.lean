/-! the class's calls that change something old -/
theorem XL.cg {h0 h : am_H} {a b : Nat} {cc cc' : Nat → Nat} {aa aa' : Nat → Nat → Int32} {P : x_P} {D : x_D} (hx : XL h0 a b h cc aa P D) (e1 : cc = cc') (e2 : aa = aa') : XL h0 a b h cc' aa' P D := by
  subst e1 e2
  exact hx
theorem x_oth15 (cc : Nat → Nat) (aa : Nat → Nat → Int32) (P : x_P) (D : x_D) (f : Nat → Int32) (k i : Nat) : xcell cc (ua aa 15 f) P D k i = xcell cc aa P D k i := by
  unfold xcell
  split <;> rfl
theorem x_oth44 (cc : Nat → Nat) (aa : Nat → Nat → Int32) (P : x_P) (D : x_D) (f : Nat → Int32) (k i : Nat) : xcell cc (ua aa 44 f) P D k i = xcell cc aa P D k i := by
  unfold xcell
  split <;> rfl
theorem XL.a15 {h0 h : am_H} {a b : Nat} {cc : Nat → Nat} {aa : Nat → Nat → Int32} {P : x_P} {D : x_D} (hx : XL h0 a b h cc aa P D) (f : Nat → Int32) : XL h0 a b h cc (ua aa 15 f) P D := ⟨hx.1.cg (Nat.le_refl _) (Nat.le_refl _) (fun k i l => ⟨l, x_oth15 cc aa P D f k i⟩), hx.2.cg ⟨rfl, rfl, rfl, rfl, rfl, rfl⟩ rfl rfl⟩
theorem XL.a44 {h0 h : am_H} {a b : Nat} {cc : Nat → Nat} {aa : Nat → Nat → Int32} {P : x_P} {D : x_D} (hx : XL h0 a b h cc aa P D) (f : Nat → Int32) : XL h0 a b h cc (ua aa 44 f) P D := ⟨hx.1.cg (Nat.le_refl _) (Nat.le_refl _) (fun k i l => ⟨l, x_oth44 cc aa P D f k i⟩), hx.2.cg ⟨rfl, rfl, rfl, rfl, rfl, rfl⟩ rfl rfl⟩
theorem x_nrw (v : Int32) : am_nrw 1 v = v.toInt8.toInt32 := rfl
theorem x_nrw2 (v : Int32) : am_nrw 1 v.toInt8.toInt32 = v.toInt8.toInt32 := by
  rw [x_nrw, Int8.toInt8_toInt32]
theorem x_fits_b {v : Int32} (h : x_byte v) : fits .byte (.int v) = true := by
  have h1 := v.toInt8.toInt_lt
  have h2 := v.toInt8.le_toInt
  have h3 : v.toInt = v.toInt8.toInt := by
    have := congrArg Int32.toInt h
    rw [Int8.toInt_toInt32] at this
    exact this.symm
  show (decide (-128 ≤ v) && decide (v ≤ 127)) = true
  rw [decide_eq_true (show (-128 : Int32) ≤ v by rw [Int32.le_iff_toInt_le, h3]; simpa using h2), decide_eq_true (show v ≤ (127 : Int32) by rw [Int32.le_iff_toInt_le, h3, show (127 : Int32).toInt = 127 from rfl]; omega)]
  rfl
theorem c89 {h0 h : am_H} {a b : Nat} {cc : Nat → Nat} {aa : Nat → Nat → Int32} {P : x_P} {D : x_D} (hx : XL h0 a b h cc aa P D) (w : Nat) (h6 : w < 6) : am_ev 89 [.ref 3, .int (nI w)] h (fun v h1 => v = some (.int (-3)) ∧ XL h0 a b h1 (S_meets cc aa w).2.1 (S_meets cc aa w).2.2 P D) := by
  show am_wp _ (_, [_, _], _) _ _
  refine w_aload_n s89_0 rfl ?_
  refine w_iload_n s89_1 rfl ?_
  refine x_pc0 hx w s89_2 (fun h hx => ?_)
  refine w_aload_n s89_5 rfl ?_
  refine w_getf s89_6 hx.o rfl ?_
  refine w_iload_n s89_9 rfl ?_
  refine w_dup2_ir s89_10 ?_
  refine w_ialdN (y := w) s89_11 hx.fc (by omega) (by decide) ?_
  refine w_iconst (v := 1) s89_12 rfl ?_
  refine w_iadd s89_13 rfl ?_
  refine x_st1 hx (y := w) s89_14 h6 (fun h hx => ?_)
  refine w_bipush (v := (-3)) s89_15 rfl ?_
  refine w_iret s89_17 rk89 ?_
  exact ⟨rfl, hx⟩
theorem c42 {h : am_H} {cc : Nat → Nat} {aa : Nat → Nat → Int32} {P : x_P} {D : x_D} (hx : XL h 0 0 h cc aa P D) (iv : IV cc aa) (n : Int32) : am_ev 42 [.ref 3, .int n] h (xQ h (S_hearing cc aa n)) := by
  have n0 := iv.n0
  have n2 := iv.n2
  have n3 := iv.n3
  have n7 := iv.n7
  have n8 := iv.n8
  have n16 := iv.n16
  have n20 := iv.n20
  have n28 := iv.n28
  have n31 := iv.n31
  have n38 := iv.n38
  have n45 := iv.n45
  show am_wp _ (_, [_, _, _], _) _ _
  refine w_iload_n s42_0 rfl ?_
  refine w_iconst (v := 0) s42_1 rfl ?_
  refine w_bipush (v := 60) s42_2 rfl ?_
  refine w_callS3r s42_4 mc42_77 rfl rfl (c77 _ _ _ _) ?_
  refine w_ifneB s42_7 rfl  (fun c7 => ?_) (fun c7 => ?_)
  · skip
    obtain ⟨j, hj, rfl⟩ := x_in_n (b := 60) c7 (by decide)
    have jcl := nI_clamp (show j < 2 ^ 31 by omega)
    refine w_aload_n s42_12 rfl ?_
    refine w_callV0r s42_13 hx.o ow92 mc42_92 rfl rfl (c92 hx iv) ?_
    refine w_ifeqB s42_16 rfl  (fun c16 => ?_) (fun c16 => ?_)
    · skip
      refine w_aload_n s42_22 rfl ?_
      refine w_getf s42_23 hx.o rfl ?_
      refine w_istore_n s42_26 rfl ?_
      show am_wp _ (_, [_, _, _], _) _ _
      refine w_aload_n s42_27 rfl ?_
      refine w_iload_n s42_28 rfl ?_
      refine x_pc7 hx j s42_29 (fun h hx => ?_)
      refine w_iload_n s42_32 rfl ?_
      refine w_iret s42_33 rk42 ?_
      exact xq_end (by decide) (by decide) (by simp [S_hearing, tn, *] <;> first | rfl | exact ⟨rfl, rfl⟩ | exact ⟨rfl, rfl, rfl⟩) hx
    · skip
      refine w_bipush (v := (-4)) s42_19 rfl ?_
      refine w_iret s42_21 rk42 ?_
      exact xq_end (by decide) (by decide) (by simp [S_hearing, tn, *] <;> first | rfl | exact ⟨rfl, rfl⟩ | exact ⟨rfl, rfl, rfl⟩) hx
  · skip
    refine w_iconst (v := (-1)) s42_10 rfl ?_
    refine w_iret s42_11 rk42 ?_
    exact xq_end (by decide) (by decide) (by simp [S_hearing, tn, *] <;> first | rfl | exact ⟨rfl, rfl⟩ | exact ⟨rfl, rfl, rfl⟩) hx
theorem x_later_in {t : Nat} (ht : t ≤ 400) (n : Int32) : x_in n 1 (400 - nI t) = (x_in n 1 400 && decide (nI t + n ≤ 400)) := by
  rw [show (400 : Int32) = nI 400 from rfl, pk_sub ht]
  by_cases c : x_in n 1 (nI 400) = true
  · obtain ⟨k, hk, rfl⟩ : ∃ k, k ≤ 400 ∧ n = nI k := by
      refine x_in_n (b := 400) ?_ (by decide)
      unfold x_in at c ⊢
      rw [Bool.and_eq_true] at c ⊢
      exact ⟨decide_eq_true (Int32.le_trans (by decide) (of_decide_eq_true c.1)), c.2⟩
    rw [c, Bool.true_and, nI_add]
    rw [show (1 : Int32) = nI 1 from rfl, x_in_m (by decide) (by decide) (by omega)] at c
    have c1 := of_decide_eq_true c
    rw [show (1 : Int32) = nI 1 from rfl, x_in_m (by decide) (by omega) (by omega)]
    apply decide_eq_decide.mpr
    rw [nI_leI (by omega) (by decide)]
    omega
  · rw [Bool.not_eq_true] at c
    rw [c, Bool.false_and]
    unfold x_in at c ⊢
    rw [← Bool.decide_and] at c ⊢
    apply decide_eq_false
    intro d
    refine of_decide_eq_false c ⟨d.1, Int32.le_trans d.2 ?_⟩
    rw [nI_leI (by omega) (by decide)]
    omega
theorem c43 {h : am_H} {cc : Nat → Nat} {aa : Nat → Nat → Int32} {P : x_P} {D : x_D} (hx : XL h 0 0 h cc aa P D) (iv : IV cc aa) (n : Int32) : am_ev 43 [.ref 3, .int n] h (xQ h (S_later cc aa n)) := by
  have n0 := iv.n0
  have n2 := iv.n2
  have n3 := iv.n3
  have n7 := iv.n7
  have n8 := iv.n8
  have n16 := iv.n16
  have n20 := iv.n20
  have n28 := iv.n28
  have n31 := iv.n31
  have n38 := iv.n38
  have n45 := iv.n45
  have hli := x_later_in n2 n
  show am_wp _ (_, [_, _, _], _) _ _
  refine w_iload_n s43_0 rfl ?_
  refine w_iconst (v := 1) s43_1 rfl ?_
  refine w_sipush (v := 400) s43_2 rfl ?_
  refine w_callS3r s43_5 mc43_77 rfl rfl (c77 _ _ _ _) ?_
  refine w_ifeqB s43_8 rfl  (fun c8 => ?_) (fun c8 => ?_)
  · skip
    rw [c8, Bool.false_and] at hli
    refine w_iconst (v := (-1)) s43_23 rfl ?_
    refine w_iret s43_24 rk43 ?_
    exact xq_end (by decide) (by decide) (by simp [S_later, tn, *] <;> first | rfl | exact ⟨rfl, rfl⟩ | exact ⟨rfl, rfl, rfl⟩) hx
  · skip
    rw [c8, Bool.true_and] at hli
    refine w_aload_n s43_11 rfl ?_
    refine w_getf s43_12 hx.o rfl ?_
    refine w_iload_n s43_15 rfl ?_
    refine w_iadd s43_16 rfl ?_
    refine w_sipush (v := 400) s43_17 rfl ?_
    refine w_icmple s43_20 rfl  (fun c20 => ?_) (fun c20 => ?_)
    · skip
      rw [decide_eq_true c20] at hli
      obtain ⟨k, hk1, hk2, rfl⟩ := x_later n2 hli
      have kcl := nI_clamp (show k < 2 ^ 31 by omega)
      refine w_aload_n s43_25 rfl ?_
      refine w_dup_r s43_26 ?_
      refine w_getf s43_27 hx.o rfl ?_
      refine w_iload_n s43_30 rfl ?_
      refine w_iaddN (x := cc 2) (y := k) s43_31 ?_
      refine x_pc2 hx (cc 2 + k) s43_32 (fun h hx => ?_)
      refine w_iconst (v := 0) s43_35 rfl ?_
      refine w_istore_n s43_36 rfl ?_
      show am_wp _ (_, [_, _, _], _) _ _
      refine am_lp (n := cc 28) (P := fun i => ∀ h, XL _ 0 0 h (uc cc 2 (cc 2 + k)) (ua aa 30 (fun c => if c < i then 0 else aa 30 c)) P D → am_wp 43 (37, [_, _, some (.int (nI i))], []) h _) ?_ 0 (Nat.zero_le _) h (hx.cg rfl (by rw [x_z0, ua_id]))
      clear hx; try clear h
      intro i hi ih h hx
      show am_wp _ (_, [_, _, _], _) _ _
      refine w_iload_n s43_37 rfl ?_
      refine w_aload_n s43_38 rfl ?_
      refine w_getf s43_39 hx.o rfl ?_
      refine w_callV0r s43_42 (hx.l 3 (by decide)) ow181 mc43_181 rfl rfl (hx.size 3 (by decide)) ?_
      refine w_icmpgeN (x := i) (y := cc 28) s43_45 rfl (by omega) (by omega)  (fun c45 => ?_) (fun c45 => ?_)
      · skip
        have e : i = cc 28 := by omega
        subst e
        refine w_aload_n s43_69 rfl ?_
        refine w_getf s43_70 hx.o rfl ?_
        refine w_iret s43_73 rk43 ?_
        exact xq_end (by decide) (by decide) (by simp [S_later, tn, *] <;> first | rfl | exact ⟨rfl, rfl⟩ | exact ⟨rfl, rfl, rfl⟩) hx
      · skip
        refine w_aload_n s43_48 rfl ?_
        refine w_getf s43_49 hx.o rfl ?_
        refine w_iload_n s43_52 rfl ?_
        refine w_callV1r s43_53 (hx.l 3 (by decide)) ow184 mc43_184 rfl rfl (hx.get 3 (by decide) (i) (show (i) < cc 28 by omega)) ?_
        refine w_cast s43_56 (hx.cr (i) (show _ < cc 28 by omega)) ?_
        refine w_iconst (v := 0) s43_59 rfl ?_
        refine x_pfr hx i c45 0 s43_60 (fun h hx => ?_)
        refine w_iinc s43_63 rfl (nI_inc (i)) rfl ?_
        show am_wp _ (_, [_, _, _], _) _ _
        refine w_goto s43_66 rfl ?_
        exact ih (by omega) h (hx.cg rfl (by rw [ua_s, x_zs, ua_ua]))
    · skip
      rw [decide_eq_false c20] at hli
      refine w_iconst (v := (-1)) s43_23 rfl ?_
      refine w_iret s43_24 rk43 ?_
      exact xq_end (by decide) (by decide) (by simp [S_later, tn, *] <;> first | rfl | exact ⟨rfl, rfl⟩ | exact ⟨rfl, rfl, rfl⟩) hx
theorem x_rfill {aa : Nat → Nat → Int32} (s : Nat) : (fun k => if k < 80 then x_fill0 (aa 14) (80 * s) 80 (80 * s + k) else 0) = (fun k => if k < 80 then am_nrw 1 0 else x_row aa s k) := by
  funext k
  by_cases d : k < 80
  · rw [if_pos d, if_pos d]
    exact if_pos ⟨Nat.le_add_right _ _, by omega⟩
  · rw [if_neg d, if_neg d]
    exact (if_neg d).symm
theorem x_ofill {aa : Nat → Nat → Int32} {s i : Nat} (hn : ¬ i = s) {k : Nat} (hk : k < 80) : x_fill0 (aa 14) (80 * s) 80 (80 * i + k) = aa 14 (80 * i + k) := if_neg (by omega)
theorem c26 {h0 h : am_H} {a b : Nat} {cc : Nat → Nat} {aa : Nat → Nat → Int32} {P : x_P} {D : x_D} (hx : XL h0 a b h cc aa P D) (s : Nat) (hs : s < 4) (n : Nat) (hn : n ≤ 80) : am_ev 26 [.ref (11 + 2 * s), .int (nI n)] h (fun v h1 => v = none ∧ XL h0 a b h1 cc (ua (ua aa 13 (upd (aa 13) s (nI n))) 14 (x_fill0 (aa 14) (80 * s) 80)) P D) := by
  show am_wp _ (_, [_, _], _) _ _
  refine w_aload_n s26_0 rfl ?_
  refine w_getf s26_1 (hx.sh (s) (by omega)) rfl ?_
  refine w_iconst (v := 0) s26_4 rfl ?_
  refine w_callS2 s26_5 mc26_188 rfl rfl (c188 (hx.sg s hs) (by decide) (by decide)) ?_
  rintro v h1 ⟨rfl, rfl⟩
  replace hx := xw_row hx s hs _ (x_fill0 (aa 14) (80 * s) 80) (x_rfill s) (fun i hi hn k hk => x_ofill hn hk)
  show am_wp _ (_, _, _) _ _
  refine w_aload_n s26_8 rfl ?_
  refine w_iload_n s26_9 rfl ?_
  refine x_psz hx s hs (nI n) (nI n) (if_neg (nI_pos (by omega))) s26_10 (fun h hx => ?_)
  refine w_vret s26_13 rk26 ?_
  exact ⟨rfl, hx.cg rfl (ua_c _ _ _ (by decide))⟩
theorem c25 {h0 h : am_H} {a b : Nat} {cc : Nat → Nat} {aa : Nat → Nat → Int32} {P : x_P} {D : x_D} (hx : XL h0 a b h cc aa P D) (s : Nat) (hs : s < 4) : am_ev 25 [.ref (11 + 2 * s)] h (fun v h1 => v = none ∧ XL h0 a b h1 cc (ua aa 13 (upd (aa 13) s (-9))) P D) := by
  show am_wp _ (_, [_], _) _ _
  refine w_aload_n s25_0 rfl ?_
  refine w_iconst (v := (-1)) s25_1 rfl ?_
  refine x_psz hx s hs (-1) (-9) (if_pos (by decide)) s25_2 (fun h hx => ?_)
  refine w_vret s25_5 rk25 ?_
  exact ⟨rfl, hx⟩
theorem c46 {h : am_H} {cc : Nat → Nat} {aa : Nat → Nat → Int32} {P : x_P} {D : x_D} (hx : XL h 0 0 h cc aa P D) (iv : IV cc aa) (s n : Int32) : am_ev 46 [.ref 3, .int s, .int n] h (xQ h (S_sheet cc aa s n)) := by
  have n0 := iv.n0
  have n2 := iv.n2
  have n3 := iv.n3
  have n7 := iv.n7
  have n8 := iv.n8
  have n16 := iv.n16
  have n20 := iv.n20
  have n28 := iv.n28
  have n31 := iv.n31
  have n38 := iv.n38
  have n45 := iv.n45
  show am_wp _ (_, [_, _, _], _) _ _
  refine w_iload_n s46_0 rfl ?_
  refine w_callS1r s46_1 mc46_80 rfl rfl (c80 _ _) ?_
  refine w_ifeqB s46_4 rfl  (fun c4 => ?_) (fun c4 => ?_)
  · skip
    refine w_iconst (v := (-1)) s46_13 rfl ?_
    refine w_iret s46_14 rk46 ?_
    exact xq_end (by decide) (by decide) (by simp [S_sheet, tn, *] <;> first | rfl | exact ⟨rfl, rfl⟩ | exact ⟨rfl, rfl, rfl⟩) hx
  · skip
    obtain ⟨j, hj, rfl⟩ := x_in_n (b := 3) c4 (by decide)
    have jcl := nI_clamp (show j < 2 ^ 31 by omega)
    refine w_iload_n s46_7 rfl ?_
    refine w_bipush (v := 80) s46_8 rfl ?_
    refine w_icmple s46_10 rfl  (fun c10 => ?_) (fun c10 => ?_)
    · skip
      skip
      refine w_iload_n s46_15 rfl ?_
      refine w_ifge s46_16 rfl  (fun c16 => ?_) (fun c16 => ?_)
      · skip
        obtain ⟨m, hm, rfl⟩ := nI_of (Int32.not_lt.mpr c16)
        have hm8 : m ≤ 80 := (nI_leI hm (by decide)).mp c10
        refine w_aload_n s46_25 rfl ?_
        refine w_getf s46_26 hx.o rfl ?_
        refine w_iload_n s46_29 rfl ?_
        refine w_aald (v := .ref (11 + 2 * (j))) s46_30 hx.sa (Or.inr rfl) (am_inb (show (j) < 4 by omega) (by decide)) (by rw [nI_clamp (show (j) < 2 ^ 31 by omega), if_pos (show (j) < 4 by omega)]; rfl) ?_
        refine w_iload_n s46_31 rfl ?_
        refine w_callV1 s46_32 (hx.sh (j) (by omega)) ow26 mc46_26 rfl rfl (c26 hx (j) (by omega) (m) (by omega)) ?_
        rintro v h ⟨rfl, hx⟩
        show am_wp _ (_, _, _) _ _
        refine w_iload_n s46_35 rfl ?_
        refine w_iret s46_36 rk46 ?_
        exact xq_end (by decide) (by decide) (by simp [S_sheet, tn, *] <;> first | rfl | exact ⟨rfl, rfl⟩ | exact ⟨rfl, rfl, rfl⟩) hx
      · skip
        refine w_aload_n s46_19 rfl ?_
        refine w_iconst (v := 5) s46_20 rfl ?_
        refine w_callV1 s46_21 hx.o ow89 mc46_89 rfl rfl (c89 hx 5 (by decide)) ?_
        rintro v h ⟨rfl, hx⟩
        show am_wp _ (_, _, Value.int (-3) :: _) _ _
        refine w_iret s46_24 rk46 ?_
        exact xq_end (by decide) (by decide) (by simp [S_sheet, S_meets, tn, *] <;> first | rfl | exact ⟨rfl, rfl⟩ | exact ⟨rfl, rfl, rfl⟩) hx
    · skip
      have c10x : ¬ n ≤ 80 := c10
      refine w_iconst (v := (-1)) s46_13 rfl ?_
      refine w_iret s46_14 rk46 ?_
      exact xq_end (by decide) (by decide) (by simp [S_sheet, tn, *] <;> first | rfl | exact ⟨rfl, rfl⟩ | exact ⟨rfl, rfl, rfl⟩) hx
theorem c48 {h : am_H} {cc : Nat → Nat} {aa : Nat → Nat → Int32} {P : x_P} {D : x_D} (hx : XL h 0 0 h cc aa P D) (iv : IV cc aa) (s : Int32) : am_ev 48 [.ref 3, .int s] h (xQ h (S_tear cc aa s)) := by
  have n0 := iv.n0
  have n2 := iv.n2
  have n3 := iv.n3
  have n7 := iv.n7
  have n8 := iv.n8
  have n16 := iv.n16
  have n20 := iv.n20
  have n28 := iv.n28
  have n31 := iv.n31
  have n38 := iv.n38
  have n45 := iv.n45
  show am_wp _ (_, [_, _], _) _ _
  refine w_iload_n s48_0 rfl ?_
  refine w_callS1r s48_1 mc48_80 rfl rfl (c80 _ _) ?_
  refine w_ifneB s48_4 rfl  (fun c4 => ?_) (fun c4 => ?_)
  · skip
    obtain ⟨j, hj, rfl⟩ := x_in_n (b := 3) c4 (by decide)
    have jcl := nI_clamp (show j < 2 ^ 31 by omega)
    refine w_aload_n s48_9 rfl ?_
    refine w_getf s48_10 hx.o rfl ?_
    refine w_iload_n s48_13 rfl ?_
    refine w_aald (v := .ref (11 + 2 * (j))) s48_14 hx.sa (Or.inr rfl) (am_inb (show (j) < 4 by omega) (by decide)) (by rw [nI_clamp (show (j) < 2 ^ 31 by omega), if_pos (show (j) < 4 by omega)]; rfl) ?_
    refine w_callV0r s48_15 (hx.sh (j) (by omega)) ow24 mc48_24 rfl rfl (c24 hx iv (j) (by omega)) ?_
    refine w_ifeqB s48_18 rfl  (fun c18 => ?_) (fun c18 => ?_)
    · skip
      have c18x := of_decide_eq_false c18
      refine w_aload_n s48_27 rfl ?_
      refine w_getf s48_28 hx.o rfl ?_
      refine w_iload_n s48_31 rfl ?_
      refine w_aald (v := .ref (11 + 2 * (j))) s48_32 hx.sa (Or.inr rfl) (am_inb (show (j) < 4 by omega) (by decide)) (by rw [nI_clamp (show (j) < 2 ^ 31 by omega), if_pos (show (j) < 4 by omega)]; rfl) ?_
      refine w_callV0 s48_33 (hx.sh (j) (by omega)) ow25 mc48_25 rfl rfl (c25 hx (j) (by omega)) ?_
      rintro v h ⟨rfl, hx⟩
      show am_wp _ (_, _, _) _ _
      refine w_iconst (v := 1) s48_36 rfl ?_
      refine w_iret s48_37 rk48 ?_
      exact xq_end (by decide) (by decide) (by simp [S_tear, S_meets, tn, *] <;> first | rfl | exact ⟨rfl, rfl⟩ | exact ⟨rfl, rfl, rfl⟩) hx
    · skip
      have c18x := of_decide_eq_true c18
      refine w_aload_n s48_21 rfl ?_
      refine w_iconst (v := 1) s48_22 rfl ?_
      refine w_callV1 s48_23 hx.o ow89 mc48_89 rfl rfl (c89 hx 1 (by decide)) ?_
      rintro v h ⟨rfl, hx⟩
      show am_wp _ (_, _, Value.int (-3) :: _) _ _
      refine w_iret s48_26 rk48 ?_
      exact xq_end (by decide) (by decide) (by simp [S_tear, S_meets, tn, *] <;> first | rfl | exact ⟨rfl, rfl⟩ | exact ⟨rfl, rfl, rfl⟩) hx
  · skip
    refine w_iconst (v := (-1)) s48_7 rfl ?_
    refine w_iret s48_8 rk48 ?_
    exact xq_end (by decide) (by decide) (by simp [S_tear, S_meets, tn, *] <;> first | rfl | exact ⟨rfl, rfl⟩ | exact ⟨rfl, rfl, rfl⟩) hx
theorem c50 {h : am_H} {cc : Nat → Nat} {aa : Nat → Nat → Int32} {P : x_P} {D : x_D} (hx : XL h 0 0 h cc aa P D) (iv : IV cc aa) (s : Int32) : am_ev 50 [.ref 3, .int s] h (xQ h (S_words cc aa s)) := by
  have n0 := iv.n0
  have n2 := iv.n2
  have n3 := iv.n3
  have n7 := iv.n7
  have n8 := iv.n8
  have n16 := iv.n16
  have n20 := iv.n20
  have n28 := iv.n28
  have n31 := iv.n31
  have n38 := iv.n38
  have n45 := iv.n45
  show am_wp _ (_, [_, _], _) _ _
  refine w_iload_n s50_0 rfl ?_
  refine w_callS1r s50_1 mc50_80 rfl rfl (c80 _ _) ?_
  refine w_ifneB s50_4 rfl  (fun c4 => ?_) (fun c4 => ?_)
  · skip
    obtain ⟨j, hj, rfl⟩ := x_in_n (b := 3) c4 (by decide)
    have jcl := nI_clamp (show j < 2 ^ 31 by omega)
    refine w_aload_n s50_9 rfl ?_
    refine w_getf s50_10 hx.o rfl ?_
    refine w_iload_n s50_13 rfl ?_
    refine w_aald (v := .ref (11 + 2 * (j))) s50_14 hx.sa (Or.inr rfl) (am_inb (show (j) < 4 by omega) (by decide)) (by rw [nI_clamp (show (j) < 2 ^ 31 by omega), if_pos (show (j) < 4 by omega)]; rfl) ?_
    refine w_callV0r s50_15 (hx.sh (j) (by omega)) ow24 mc50_24 rfl rfl (c24 hx iv (j) (by omega)) ?_
    refine w_ifeqB s50_18 rfl  (fun c18 => ?_) (fun c18 => ?_)
    · skip
      have c18x := of_decide_eq_false c18
      obtain ⟨z, hz, ez⟩ := (iv.sz j (by omega)).resolve_left (fun e => c18x (by rw [e]; decide))
      have zcl := nI_clamp (show z < 2 ^ 31 by omega)
      have zpos : ¬ nI z < 0 := nI_pos (by omega)
      refine w_aload_n s50_27 rfl ?_
      refine w_getf s50_28 hx.o rfl ?_
      refine w_iload_n s50_31 rfl ?_
      refine w_aald (v := .ref (11 + 2 * (j))) s50_32 hx.sa (Or.inr rfl) (am_inb (show (j) < 4 by omega) (by decide)) (by rw [nI_clamp (show (j) < 2 ^ 31 by omega), if_pos (show (j) < 4 by omega)]; rfl) ?_
      refine w_callV0r s50_33 (hx.sh (j) (by omega)) ow30 mc50_30 rfl rfl (c30 hx iv (j) z (by omega) hz ez) ?_
      refine w_iret s50_36 rk50 ?_
      exact xq_end (by decide) (by decide) (by simp [S_words, S_meets, tn, *] <;> first | rfl | exact ⟨rfl, rfl⟩ | exact ⟨rfl, rfl, rfl⟩) hx
    · skip
      have c18x := of_decide_eq_true c18
      refine w_aload_n s50_21 rfl ?_
      refine w_iconst (v := 1) s50_22 rfl ?_
      refine w_callV1 s50_23 hx.o ow89 mc50_89 rfl rfl (c89 hx 1 (by decide)) ?_
      rintro v h ⟨rfl, hx⟩
      show am_wp _ (_, _, Value.int (-3) :: _) _ _
      refine w_iret s50_26 rk50 ?_
      exact xq_end (by decide) (by decide) (by simp [S_words, S_meets, tn, *] <;> first | rfl | exact ⟨rfl, rfl⟩ | exact ⟨rfl, rfl, rfl⟩) hx
  · skip
    refine w_iconst (v := (-1)) s50_7 rfl ?_
    refine w_iret s50_8 rk50 ?_
    exact xq_end (by decide) (by decide) (by simp [S_words, S_meets, tn, *] <;> first | rfl | exact ⟨rfl, rfl⟩ | exact ⟨rfl, rfl, rfl⟩) hx
theorem c52 {h : am_H} {cc : Nat → Nat} {aa : Nat → Nat → Int32} {P : x_P} {D : x_D} (hx : XL h 0 0 h cc aa P D) (iv : IV cc aa) (s : Int32) : am_ev 52 [.ref 3, .int s] h (xQ h (S_barred cc aa s)) := by
  have n0 := iv.n0
  have n2 := iv.n2
  have n3 := iv.n3
  have n7 := iv.n7
  have n8 := iv.n8
  have n16 := iv.n16
  have n20 := iv.n20
  have n28 := iv.n28
  have n31 := iv.n31
  have n38 := iv.n38
  have n45 := iv.n45
  show am_wp _ (_, [_, _], _) _ _
  refine w_iload_n s52_0 rfl ?_
  refine w_callS1r s52_1 mc52_80 rfl rfl (c80 _ _) ?_
  refine w_ifneB s52_4 rfl  (fun c4 => ?_) (fun c4 => ?_)
  · skip
    obtain ⟨j, hj, rfl⟩ := x_in_n (b := 3) c4 (by decide)
    have jcl := nI_clamp (show j < 2 ^ 31 by omega)
    refine w_aload_n s52_9 rfl ?_
    refine w_getf s52_10 hx.o rfl ?_
    refine w_iload_n s52_13 rfl ?_
    refine w_aald (v := .ref (11 + 2 * (j))) s52_14 hx.sa (Or.inr rfl) (am_inb (show (j) < 4 by omega) (by decide)) (by rw [nI_clamp (show (j) < 2 ^ 31 by omega), if_pos (show (j) < 4 by omega)]; rfl) ?_
    refine w_callV0r s52_15 (hx.sh (j) (by omega)) ow24 mc52_24 rfl rfl (c24 hx iv (j) (by omega)) ?_
    refine w_ifeqB s52_18 rfl  (fun c18 => ?_) (fun c18 => ?_)
    · skip
      have c18x := of_decide_eq_false c18
      obtain ⟨z, hz, ez⟩ := (iv.sz j (by omega)).resolve_left (fun e => c18x (by rw [e]; decide))
      have zcl := nI_clamp (show z < 2 ^ 31 by omega)
      have zpos : ¬ nI z < 0 := nI_pos (by omega)
      refine w_aload_n s52_27 rfl ?_
      refine w_getf s52_28 hx.o rfl ?_
      refine w_aload_n s52_31 rfl ?_
      refine w_getf s52_32 hx.o rfl ?_
      refine w_iload_n s52_35 rfl ?_
      refine w_aald (v := .ref (11 + 2 * (j))) s52_36 hx.sa (Or.inr rfl) (am_inb (show (j) < 4 by omega) (by decide)) (by rw [nI_clamp (show (j) < 2 ^ 31 by omega), if_pos (show (j) < 4 by omega)]; rfl) ?_
      refine w_callV1r s52_37 hx.bp ow2 mc52_2 rfl rfl (c2 hx iv (j) z (by omega) hz ez) ?_
      refine w_iret s52_40 rk52 ?_
      exact xq_end (by decide) (by decide) (by simp [S_barred, S_meets, tn, *] <;> first | rfl | exact ⟨rfl, rfl⟩ | exact ⟨rfl, rfl, rfl⟩) hx
    · skip
      have c18x := of_decide_eq_true c18
      refine w_aload_n s52_21 rfl ?_
      refine w_iconst (v := 1) s52_22 rfl ?_
      refine w_callV1 s52_23 hx.o ow89 mc52_89 rfl rfl (c89 hx 1 (by decide)) ?_
      rintro v h ⟨rfl, hx⟩
      show am_wp _ (_, _, Value.int (-3) :: _) _ _
      refine w_iret s52_26 rk52 ?_
      exact xq_end (by decide) (by decide) (by simp [S_barred, S_meets, tn, *] <;> first | rfl | exact ⟨rfl, rfl⟩ | exact ⟨rfl, rfl, rfl⟩) hx
  · skip
    refine w_iconst (v := (-1)) s52_7 rfl ?_
    refine w_iret s52_8 rk52 ?_
    exact xq_end (by decide) (by decide) (by simp [S_barred, S_meets, tn, *] <;> first | rfl | exact ⟨rfl, rfl⟩ | exact ⟨rfl, rfl, rfl⟩) hx
theorem x_rupd {aa : Nat → Nat → Int32} {s i : Nat} (hi : i < 80) (v : Int32) : (fun k => if k < 80 then upd (aa 14) (80 * s + i) v (80 * s + k) else 0) = upd (x_row aa s) i v := by
  funext k
  by_cases d : k < 80
  · rw [if_pos d]
    by_cases e : k = i
    · rw [e, pk_us, pk_us]
    · rw [x_up_n e, x_up_n (by omega)]
      exact (if_pos d).symm
  · rw [if_neg d, x_up_n (by omega)]
    exact (if_neg d).symm
theorem x_oupd {aa : Nat → Nat → Int32} {s i : Nat} (hi : i < 80) (v : Int32) {t : Nat} (hn : ¬ t = s) {k : Nat} (hk : k < 80) : upd (aa 14) (80 * s + i) v (80 * t + k) = aa 14 (80 * t + k) := x_up_n (by omega)
theorem c47 {h : am_H} {cc : Nat → Nat} {aa : Nat → Nat → Int32} {P : x_P} {D : x_D} (hx : XL h 0 0 h cc aa P D) (iv : IV cc aa) (s i c : Int32) : am_ev 47 [.ref 3, .int s, .int i, .int c] h (xQ h (S_lay cc aa s i c)) := by
  have n0 := iv.n0
  have n2 := iv.n2
  have n3 := iv.n3
  have n7 := iv.n7
  have n8 := iv.n8
  have n16 := iv.n16
  have n20 := iv.n20
  have n28 := iv.n28
  have n31 := iv.n31
  have n38 := iv.n38
  have n45 := iv.n45
  show am_wp _ (_, [_, _, _, _, _, _], _) _ _
  refine w_iload_n s47_0 rfl ?_
  refine w_callS1r s47_1 mc47_80 rfl rfl (c80 _ _) ?_
  refine w_ifneB s47_4 rfl  (fun c4 => ?_) (fun c4 => ?_)
  · skip
    obtain ⟨j, hj, rfl⟩ := x_in_n (b := 3) c4 (by decide)
    have jcl := nI_clamp (show j < 2 ^ 31 by omega)
    refine w_aload_n s47_9 rfl ?_
    refine w_getf s47_10 hx.o rfl ?_
    refine w_iload_n s47_13 rfl ?_
    refine w_aald (v := .ref (11 + 2 * (j))) s47_14 hx.sa (Or.inr rfl) (am_inb (show (j) < 4 by omega) (by decide)) (by rw [nI_clamp (show (j) < 2 ^ 31 by omega), if_pos (show (j) < 4 by omega)]; rfl) ?_
    refine w_astore s47_15 rfl ?_
    show am_wp _ (_, [_, _, _, _, _, _], _) _ _
    refine w_aload s47_17 rfl ?_
    refine w_callV0r s47_19 (hx.sh (j) (by omega)) ow24 mc47_24 rfl rfl (c24 hx iv (j) (by omega)) ?_
    refine w_ifeqB s47_22 rfl  (fun c22 => ?_) (fun c22 => ?_)
    · skip
      have c22x := of_decide_eq_false c22
      obtain ⟨z, hz, ez⟩ := (iv.sz j (by omega)).resolve_left (fun e => c22x (by rw [e]; decide))
      have zcl := nI_clamp (show z < 2 ^ 31 by omega)
      have zpos : ¬ nI z < 0 := nI_pos (by omega)
      have esz := x_sz_n ez hz
      refine w_iload_n s47_31 rfl ?_
      refine w_iflt s47_32 rfl  (fun c32 => ?_) (fun c32 => ?_)
      · skip
        have hxi : x_ix z i = false := x_ix_f1 c32
        refine w_aload_n s47_44 rfl ?_
        refine w_iconst (v := 2) s47_45 rfl ?_
        refine w_callV1 s47_46 hx.o ow89 mc47_89 rfl rfl (c89 hx 2 (by decide)) ?_
        rintro v h ⟨rfl, hx⟩
        show am_wp _ (_, _, Value.int (-3) :: _) _ _
        refine w_iret s47_49 rk47 ?_
        exact xq_end (by decide) (by decide) (by simp [S_lay, S_meets, tn, *] <;> first | rfl | exact ⟨rfl, rfl⟩ | exact ⟨rfl, rfl, rfl⟩) hx
      · skip
        refine w_iload_n s47_35 rfl ?_
        refine w_aload s47_36 rfl ?_
        refine w_getf s47_38 (hx.sh (j) (by omega)) rfl ?_
        rw [esz]
        refine w_icmplt s47_41 rfl  (fun c41 => ?_) (fun c41 => ?_)
        · skip
          have hxi : x_ix z i = true := x_ix_t (by omega) c32 (Int32.not_le.mpr c41)
          obtain ⟨k, hk, rfl⟩ := x_ix_i hxi
          have kcl := nI_clamp (show k < 2 ^ 31 by omega)
          refine w_aload s47_50 rfl ?_
          refine w_getf s47_52 (hx.sh (j) (by omega)) rfl ?_
          refine w_iload_n s47_55 rfl ?_
          refine w_baldV (y := k) (v := aa 14 (80 * j + k)) s47_56 (hx.sg (j) (by omega)) (Or.inl rfl) (by omega) (by decide) (if_pos (by omega)) ?_
          refine w_istore s47_57 rfl ?_
          show am_wp _ (_, [_, _, _, _, _, _], _) _ _
          refine w_aload s47_59 rfl ?_
          refine w_getf s47_61 (hx.sh (j) (by omega)) rfl ?_
          refine w_iload_n s47_64 rfl ?_
          refine w_iload_n s47_65 rfl ?_
          refine w_i2b s47_66 rfl ?_
          refine w_bastN (y := k) s47_67 (hx.sg j (by omega)) (Or.inl rfl) (by omega) (by decide) ?_
          rw [x_nrw2]
          replace hx := xw_row hx j (by omega) _ (upd (aa 14) (80 * j + k) c.toInt8.toInt32) (x_rupd (by omega) _) (fun i hi hn k hk => x_oupd (by omega) _ hn hk)
          refine w_iload s47_68 rfl ?_
          refine w_sipush (v := 1000) s47_70 rfl ?_
          refine w_iadd s47_73 rfl ?_
          refine w_iret s47_74 rk47 ?_
          exact xq_end (by decide) (by decide) (by simp [S_lay, tn, *] <;> first | rfl | exact ⟨rfl, rfl⟩ | exact ⟨rfl, rfl, rfl⟩) hx
        · skip
          have hxi : x_ix z i = false := x_ix_f2 (by omega) (Int32.not_lt.mp c41)
          refine w_aload_n s47_44 rfl ?_
          refine w_iconst (v := 2) s47_45 rfl ?_
          refine w_callV1 s47_46 hx.o ow89 mc47_89 rfl rfl (c89 hx 2 (by decide)) ?_
          rintro v h ⟨rfl, hx⟩
          show am_wp _ (_, _, Value.int (-3) :: _) _ _
          refine w_iret s47_49 rk47 ?_
          exact xq_end (by decide) (by decide) (by simp [S_lay, S_meets, tn, *] <;> first | rfl | exact ⟨rfl, rfl⟩ | exact ⟨rfl, rfl, rfl⟩) hx
    · skip
      have c22x := of_decide_eq_true c22
      refine w_aload_n s47_25 rfl ?_
      refine w_iconst (v := 1) s47_26 rfl ?_
      refine w_callV1 s47_27 hx.o ow89 mc47_89 rfl rfl (c89 hx 1 (by decide)) ?_
      rintro v h ⟨rfl, hx⟩
      show am_wp _ (_, _, Value.int (-3) :: _) _ _
      refine w_iret s47_30 rk47 ?_
      exact xq_end (by decide) (by decide) (by simp [S_lay, S_meets, tn, *] <;> first | rfl | exact ⟨rfl, rfl⟩ | exact ⟨rfl, rfl, rfl⟩) hx
  · skip
    refine w_iconst (v := (-1)) s47_7 rfl ?_
    refine w_iret s47_8 rk47 ?_
    exact xq_end (by decide) (by decide) (by simp [S_lay, tn, *] <;> first | rfl | exact ⟨rfl, rfl⟩ | exact ⟨rfl, rfl, rfl⟩) hx
theorem x_rcpy {aa : Nat → Nat → Int32} {s t i j n : Nat} (h1 : i + n ≤ 80) (h2 : j + n ≤ 80) : (fun k => if k < 80 then x_put (aa 14) (80 * t + j) n (fun k => aa 14 (80 * s + i + k)) (80 * t + k) else 0) = va_cpy (x_row aa s) (x_row aa t) i j n := by
  funext k
  by_cases d : k < 80
  · rw [if_pos d]
    by_cases e : j ≤ k ∧ k < j + n
    · rw [pk_cpy_in e.1 e.2]
      show (if 80 * t + j ≤ 80 * t + k ∧ 80 * t + k < 80 * t + j + n then aa 14 (80 * s + i + (80 * t + k - (80 * t + j))) else aa 14 (80 * t + k)) = _
      rw [if_pos (by omega)]
      show _ = if i + (k - j) < 80 then aa 14 (80 * s + (i + (k - j))) else 0
      rw [if_pos (by omega), show 80 * s + i + (80 * t + k - (80 * t + j)) = 80 * s + (i + (k - j)) by omega]
    · rw [pk_cpy_out (by omega)]
      show (if 80 * t + j ≤ 80 * t + k ∧ 80 * t + k < 80 * t + j + n then aa 14 (80 * s + i + (80 * t + k - (80 * t + j))) else aa 14 (80 * t + k)) = _
      rw [if_neg (by omega)]
      exact (if_pos d).symm
  · rw [if_neg d, pk_cpy_out (by omega)]
    exact (if_neg d).symm
theorem x_ocpy {aa : Nat → Nat → Int32} {t j n : Nat} (h2 : j + n ≤ 80) (w : Nat → Int32) {i : Nat} (hn : ¬ i = t) {k : Nat} (hk : k < 80) : x_put (aa 14) (80 * t + j) n w (80 * i + k) = aa 14 (80 * i + k) := if_neg (by omega)
theorem x_fit_e {i : Int32} {m z : Nat} (hm : m < 2 ^ 31) (hz : z < 2 ^ 31) (h : x_fit i (nI m) z = true) : ∃ k, i = nI k ∧ k + m ≤ z := by
  have h1 := of_decide_eq_true h
  rw [nI_toInt hm] at h1
  refine ⟨i.toInt.toNat, ?_, by omega⟩
  apply Int32.toInt_inj.mp
  rw [nI_toInt (by omega)]
  omega
theorem x_cpiN {i j n a b : Nat} (h1 : i + n ≤ a) (h2 : j + n ≤ b) (ha : a < 2 ^ 31) (hb : b < 2 ^ 31) : am_cpi (nI i) (nI j) (nI n) a b = true := by
  unfold am_cpi
  rw [nI_clamp (show i < 2 ^ 31 by omega), nI_clamp (show j < 2 ^ 31 by omega), nI_clamp (show n < 2 ^ 31 by omega), decide_eq_true (nI_pos (show i < 2 ^ 31 by omega)), decide_eq_true (nI_pos (show j < 2 ^ 31 by omega)), decide_eq_true (nI_pos (show n < 2 ^ 31 by omega)), decide_eq_true h1, decide_eq_true h2]
  rfl
theorem x_cpbN {cc : Nat → Nat} {aa : Nat → Nat → Int32} (iv : IV cc aa) {s i n : Nat} (h : i + n ≤ 80) : am_cpb (x_row aa s) i n = true := by
  unfold am_cpb
  rw [List.all_eq_true]
  intro k hk
  have hk := List.mem_range.mp hk
  rw [show x_row aa s (i + k) = aa 14 (80 * s + (i + k)) from if_pos (by omega)]
  exact x_fits_b (iv.sg _)
theorem c49 {h : am_H} {cc : Nat → Nat} {aa : Nat → Nat → Int32} {P : x_P} {D : x_D} (hx : XL h 0 0 h cc aa P D) (iv : IV cc aa) (s i t j n : Int32) : am_ev 49 [.ref 3, .int s, .int i, .int t, .int j, .int n] h (xQ h (S_copy cc aa s i t j n)) := by
  have n0 := iv.n0
  have n2 := iv.n2
  have n3 := iv.n3
  have n7 := iv.n7
  have n8 := iv.n8
  have n16 := iv.n16
  have n20 := iv.n20
  have n28 := iv.n28
  have n31 := iv.n31
  have n38 := iv.n38
  have n45 := iv.n45
  show am_wp _ (_, [_, _, _, _, _, _], _) _ _
  refine w_iload_n s49_0 rfl ?_
  refine w_callS1r s49_1 mc49_80 rfl rfl (c80 _ _) ?_
  refine w_ifeqB s49_4 rfl  (fun c4 => ?_) (fun c4 => ?_)
  · skip
    refine w_iconst (v := (-1)) s49_14 rfl ?_
    refine w_iret s49_15 rk49 ?_
    exact xq_end (by decide) (by decide) (by simp [S_copy, S_meets, tn, *] <;> first | rfl | exact ⟨rfl, rfl⟩ | exact ⟨rfl, rfl, rfl⟩) hx
  · skip
    obtain ⟨p, hp, rfl⟩ := x_in_n (b := 3) c4 (by decide)
    have pcl := nI_clamp (show p < 2 ^ 31 by omega)
    refine w_iload_n s49_7 rfl ?_
    refine w_callS1r s49_8 mc49_80 rfl rfl (c80 _ _) ?_
    refine w_ifneB s49_11 rfl  (fun c11 => ?_) (fun c11 => ?_)
    · skip
      obtain ⟨q, hq, rfl⟩ := x_in_n (b := 3) c11 (by decide)
      have qcl := nI_clamp (show q < 2 ^ 31 by omega)
      refine w_iload s49_16 rfl ?_
      refine w_ifge s49_18 rfl  (fun c18 => ?_) (fun c18 => ?_)
      · skip
        obtain ⟨m, hm, rfl⟩ := nI_of (Int32.not_lt.mpr c18)
        have mcl := nI_clamp hm
        refine w_aload_n s49_27 rfl ?_
        refine w_getf s49_28 hx.o rfl ?_
        refine w_iload_n s49_31 rfl ?_
        refine w_aald (v := .ref (11 + 2 * (p))) s49_32 hx.sa (Or.inr rfl) (am_inb (show (p) < 4 by omega) (by decide)) (by rw [nI_clamp (show (p) < 2 ^ 31 by omega), if_pos (show (p) < 4 by omega)]; rfl) ?_
        refine w_callV0r s49_33 (hx.sh (p) (by omega)) ow24 mc49_24 rfl rfl (c24 hx iv (p) (by omega)) ?_
        refine w_ifneB s49_36 rfl  (fun c36 => ?_) (fun c36 => ?_)
        · skip
          have c36x := of_decide_eq_true c36
          refine w_aload_n s49_51 rfl ?_
          refine w_iconst (v := 1) s49_52 rfl ?_
          refine w_callV1 s49_53 hx.o ow89 mc49_89 rfl rfl (c89 hx 1 (by decide)) ?_
          rintro v h ⟨rfl, hx⟩
          show am_wp _ (_, _, Value.int (-3) :: _) _ _
          refine w_iret s49_56 rk49 ?_
          exact xq_end (by decide) (by decide) (by simp [S_copy, S_meets, tn, *] <;> first | rfl | exact ⟨rfl, rfl⟩ | exact ⟨rfl, rfl, rfl⟩) hx
        · skip
          have c36x := of_decide_eq_false c36
          obtain ⟨z, hz, ez⟩ := (iv.sz p (by omega)).resolve_left (fun e => c36x (by rw [e]; decide))
          have zcl := nI_clamp (show z < 2 ^ 31 by omega)
          have zpos : ¬ nI z < 0 := nI_pos (by omega)
          refine w_aload_n s49_39 rfl ?_
          refine w_getf s49_40 hx.o rfl ?_
          refine w_iload_n s49_43 rfl ?_
          refine w_aald (v := .ref (11 + 2 * (q))) s49_44 hx.sa (Or.inr rfl) (am_inb (show (q) < 4 by omega) (by decide)) (by rw [nI_clamp (show (q) < 2 ^ 31 by omega), if_pos (show (q) < 4 by omega)]; rfl) ?_
          refine w_callV0r s49_45 (hx.sh (q) (by omega)) ow24 mc49_24 rfl rfl (c24 hx iv (q) (by omega)) ?_
          refine w_ifeqB s49_48 rfl  (fun c48 => ?_) (fun c48 => ?_)
          · skip
            have c48x := of_decide_eq_false c48
            obtain ⟨y, hy, ey⟩ := (iv.sz q (by omega)).resolve_left (fun e => c48x (by rw [e]; decide))
            have ycl := nI_clamp (show y < 2 ^ 31 by omega)
            have ypos : ¬ nI y < 0 := nI_pos (by omega)
            refine w_aload_n s49_57 rfl ?_
            refine w_getf s49_58 hx.o rfl ?_
            refine w_iload_n s49_61 rfl ?_
            refine w_aald (v := .ref (11 + 2 * (p))) s49_62 hx.sa (Or.inr rfl) (am_inb (show (p) < 4 by omega) (by decide)) (by rw [nI_clamp (show (p) < 2 ^ 31 by omega), if_pos (show (p) < 4 by omega)]; rfl) ?_
            refine w_iload_n s49_63 rfl ?_
            refine w_iload s49_64 rfl ?_
            refine w_callV2r s49_66 (hx.sh (p) (by omega)) ow27 mc49_27 rfl rfl (c27 hx iv p z (by omega) hz ez _ m hm) ?_
            refine w_ifeqB s49_69 rfl  (fun c69 => ?_) (fun c69 => ?_)
            · skip
              refine w_aload_n s49_88 rfl ?_
              refine w_iconst (v := 2) s49_89 rfl ?_
              refine w_callV1 s49_90 hx.o ow89 mc49_89 rfl rfl (c89 hx 2 (by decide)) ?_
              rintro v h ⟨rfl, hx⟩
              show am_wp _ (_, _, Value.int (-3) :: _) _ _
              refine w_iret s49_93 rk49 ?_
              exact xq_end (by decide) (by decide) (by simp [S_copy, S_meets, tn, *] <;> first | rfl | exact ⟨rfl, rfl⟩ | exact ⟨rfl, rfl, rfl⟩) hx
            · skip
              refine w_aload_n s49_72 rfl ?_
              refine w_getf s49_73 hx.o rfl ?_
              refine w_iload_n s49_76 rfl ?_
              refine w_aald (v := .ref (11 + 2 * (q))) s49_77 hx.sa (Or.inr rfl) (am_inb (show (q) < 4 by omega) (by decide)) (by rw [nI_clamp (show (q) < 2 ^ 31 by omega), if_pos (show (q) < 4 by omega)]; rfl) ?_
              refine w_iload s49_78 rfl ?_
              refine w_iload s49_80 rfl ?_
              refine w_callV2r s49_82 (hx.sh (q) (by omega)) ow27 mc49_27 rfl rfl (c27 hx iv q y (by omega) hy ey _ m hm) ?_
              refine w_ifneB s49_85 rfl  (fun c85 => ?_) (fun c85 => ?_)
              · skip
                obtain ⟨k, rfl, hk⟩ := x_fit_e hm (by omega) c69
                obtain ⟨l, rfl, hl⟩ := x_fit_e hm (by omega) c85
                have kcl := nI_clamp (show k < 2 ^ 31 by omega)
                have lcl := nI_clamp (show l < 2 ^ 31 by omega)
                refine w_aload_n s49_94 rfl ?_
                refine w_getf s49_95 hx.o rfl ?_
                refine w_iload_n s49_98 rfl ?_
                refine w_aald (v := .ref (11 + 2 * (p))) s49_99 hx.sa (Or.inr rfl) (am_inb (show (p) < 4 by omega) (by decide)) (by rw [nI_clamp (show (p) < 2 ^ 31 by omega), if_pos (show (p) < 4 by omega)]; rfl) ?_
                refine w_getf s49_100 (hx.sh (p) (by omega)) rfl ?_
                refine w_iload_n s49_103 rfl ?_
                refine w_aload_n s49_104 rfl ?_
                refine w_getf s49_105 hx.o rfl ?_
                refine w_iload_n s49_108 rfl ?_
                refine w_aald (v := .ref (11 + 2 * (q))) s49_109 hx.sa (Or.inr rfl) (am_inb (show (q) < 4 by omega) (by decide)) (by rw [nI_clamp (show (q) < 2 ^ 31 by omega), if_pos (show (q) < 4 by omega)]; rfl) ?_
                refine w_getf s49_110 (hx.sh (q) (by omega)) rfl ?_
                refine w_iload s49_113 rfl ?_
                refine w_iload s49_115 rfl ?_
                refine w_cpb s49_117 ro49 rfl (hx.sg p (by omega)) (hx.sg q (by omega)) (x_cpiN (by omega) (by omega) (by decide) (by decide)) (by rw [kcl, mcl]; exact x_cpbN iv (by omega)) ?_
                rw [kcl, lcl, mcl]
                replace hx := (xw_row hx q (by omega) _ (x_put (aa 14) (80 * q + l) m (fun k_1 => aa 14 (80 * p + k + k_1))) (x_rcpy (by omega) (by omega)) (fun i hi hn k hk => x_ocpy (by omega) _ hn hk)).a15 (x_put (aa 15) 0 m (fun k_1 => aa 14 (80 * p + k + k_1)))
                refine w_iconst (v := 1) s49_120 rfl ?_
                refine w_iret s49_121 rk49 ?_
                refine xq_end (by decide) (by decide) ?_ (hx.cg rfl (ua_c _ _ _ (by decide)))
                simp [S_copy, tn, *]
                try rfl
              · skip
                refine w_aload_n s49_88 rfl ?_
                refine w_iconst (v := 2) s49_89 rfl ?_
                refine w_callV1 s49_90 hx.o ow89 mc49_89 rfl rfl (c89 hx 2 (by decide)) ?_
                rintro v h ⟨rfl, hx⟩
                show am_wp _ (_, _, Value.int (-3) :: _) _ _
                refine w_iret s49_93 rk49 ?_
                exact xq_end (by decide) (by decide) (by simp [S_copy, S_meets, tn, *] <;> first | rfl | exact ⟨rfl, rfl⟩ | exact ⟨rfl, rfl, rfl⟩) hx
          · skip
            have c48x := of_decide_eq_true c48
            refine w_aload_n s49_51 rfl ?_
            refine w_iconst (v := 1) s49_52 rfl ?_
            refine w_callV1 s49_53 hx.o ow89 mc49_89 rfl rfl (c89 hx 1 (by decide)) ?_
            rintro v h ⟨rfl, hx⟩
            show am_wp _ (_, _, Value.int (-3) :: _) _ _
            refine w_iret s49_56 rk49 ?_
            exact xq_end (by decide) (by decide) (by simp [S_copy, S_meets, tn, *] <;> first | rfl | exact ⟨rfl, rfl⟩ | exact ⟨rfl, rfl, rfl⟩) hx
      · skip
        refine w_aload_n s49_21 rfl ?_
        refine w_iconst (v := 5) s49_22 rfl ?_
        refine w_callV1 s49_23 hx.o ow89 mc49_89 rfl rfl (c89 hx 5 (by decide)) ?_
        rintro v h ⟨rfl, hx⟩
        show am_wp _ (_, _, Value.int (-3) :: _) _ _
        refine w_iret s49_26 rk49 ?_
        exact xq_end (by decide) (by decide) (by simp [S_copy, S_meets, tn, *] <;> first | rfl | exact ⟨rfl, rfl⟩ | exact ⟨rfl, rfl, rfl⟩) hx
    · skip
      refine w_iconst (v := (-1)) s49_14 rfl ?_
      refine w_iret s49_15 rk49 ?_
      exact xq_end (by decide) (by decide) (by simp [S_copy, S_meets, tn, *] <;> first | rfl | exact ⟨rfl, rfl⟩ | exact ⟨rfl, rfl, rfl⟩) hx
theorem c53 {h : am_H} {cc : Nat → Nat} {aa : Nat → Nat → Int32} {P : x_P} {D : x_D} (hx : XL h 0 0 h cc aa P D) (iv : IV cc aa) (k r : Int32) : am_ev 53 [.ref 3, .int k, .int r] h (xQ h (S_rate cc aa k r)) := by
  have n0 := iv.n0
  have n2 := iv.n2
  have n3 := iv.n3
  have n7 := iv.n7
  have n8 := iv.n8
  have n16 := iv.n16
  have n20 := iv.n20
  have n28 := iv.n28
  have n31 := iv.n31
  have n38 := iv.n38
  have n45 := iv.n45
  show am_wp _ (_, [_, _, _, _], _) _ _
  refine w_iload_n s53_0 rfl ?_
  refine w_callS1r s53_1 mc53_81 rfl rfl (c81 _ _) ?_
  refine w_ifeqB s53_4 rfl  (fun c4 => ?_) (fun c4 => ?_)
  · skip
    refine w_iconst (v := (-1)) s53_18 rfl ?_
    refine w_iret s53_19 rk53 ?_
    exact xq_end (by decide) (by decide) (by simp [S_rate, tn, *] <;> first | rfl | exact ⟨rfl, rfl⟩ | exact ⟨rfl, rfl, rfl⟩) hx
  · skip
    obtain ⟨j, hj, rfl⟩ := x_in_n (b := 5) c4 (by decide)
    have jcl := nI_clamp (show j < 2 ^ 31 by omega)
    refine w_iload_n s53_7 rfl ?_
    refine w_iconst (v := 0) s53_8 rfl ?_
    refine w_sipush (v := 1000) s53_9 rfl ?_
    refine w_callS3r s53_12 mc53_77 rfl rfl (c77 _ _ _ _) ?_
    refine w_ifneB s53_15 rfl  (fun c15 => ?_) (fun c15 => ?_)
    · skip
      refine w_aload_n s53_20 rfl ?_
      refine w_getf s53_21 hx.o rfl ?_
      refine w_iload_n s53_24 rfl ?_
      refine w_ialdN (y := j) s53_25 hx.ra (by omega) (by decide) ?_
      refine w_istore_n s53_26 rfl ?_
      show am_wp _ (_, [_, _, _, _], _) _ _
      refine w_aload_n s53_27 rfl ?_
      refine w_getf s53_28 hx.o rfl ?_
      refine w_iload_n s53_31 rfl ?_
      refine w_iload_n s53_32 rfl ?_
      refine x_st19 hx (y := j) s53_33 (by omega) (fun h hx => ?_)
      refine w_iload_n s53_34 rfl ?_
      refine w_iret s53_35 rk53 ?_
      exact xq_end (by decide) (by decide) (by simp [S_rate, tn, *] <;> first | rfl | exact ⟨rfl, rfl⟩ | exact ⟨rfl, rfl, rfl⟩) hx
    · skip
      refine w_iconst (v := (-1)) s53_18 rfl ?_
      refine w_iret s53_19 rk53 ?_
      exact xq_end (by decide) (by decide) (by simp [S_rate, tn, *] <;> first | rfl | exact ⟨rfl, rfl⟩ | exact ⟨rfl, rfl, rfl⟩) hx
theorem x_in15 (k : Int32) : x_in k 1 5 = (x_in k 0 5 && !decide (k = 0)) := by
  by_cases c : k = 0
  · subst c
    rfl
  · rw [decide_eq_false c]
    unfold x_in
    rw [← Bool.decide_and, ← Bool.decide_and, show (!false) = true from rfl, Bool.and_true]
    apply decide_eq_decide.mpr
    rw [Int32.le_iff_toInt_le, Int32.le_iff_toInt_le, Int32.le_iff_toInt_le]
    have h1 : ¬ k.toInt = 0 := fun e => c (Int32.toInt_inj.mp e)
    simp only [show (0 : Int32).toInt = 0 from rfl, show (1 : Int32).toInt = 1 from rfl, show (5 : Int32).toInt = 5 from rfl]
    omega
theorem c56 {h : am_H} {cc : Nat → Nat} {aa : Nat → Nat → Int32} {P : x_P} {D : x_D} (hx : XL h 0 0 h cc aa P D) (iv : IV cc aa) (n k : Int32) : am_ev 56 [.ref 3, .int n, .int k] h (xQ h (S_mark cc aa n k)) := by
  have n0 := iv.n0
  have n2 := iv.n2
  have n3 := iv.n3
  have n7 := iv.n7
  have n8 := iv.n8
  have n16 := iv.n16
  have n20 := iv.n20
  have n28 := iv.n28
  have n31 := iv.n31
  have n38 := iv.n38
  have n45 := iv.n45
  show am_wp _ (_, [_, _, _, _], _) _ _
  refine w_aload_n s56_0 rfl ?_
  refine w_iload_n s56_1 rfl ?_
  refine w_callV1r s56_2 hx.o ow84 mc56_84 rfl rfl (c84 hx iv _) ?_
  refine w_ifeqB s56_5 rfl  (fun c5 => ?_) (fun c5 => ?_)
  · skip
    refine w_iconst (v := (-1)) s56_19 rfl ?_
    refine w_iret s56_20 rk56 ?_
    exact xq_end (by decide) (by decide) (by simp [S_mark, S_meets, x_in15, tn, *] <;> first | rfl | exact ⟨rfl, rfl⟩ | exact ⟨rfl, rfl, rfl⟩) hx
  · skip
    obtain ⟨j, hj, rfl⟩ := x_ix_i c5
    have jcl := nI_clamp (show j < 2 ^ 31 by omega)
    refine w_iload_n s56_8 rfl ?_
    refine w_callS1r s56_9 mc56_81 rfl rfl (c81 _ _) ?_
    refine w_ifeqB s56_12 rfl  (fun d12 => ?_) (fun d12 => ?_)
    · skip
      refine w_iconst (v := (-1)) s56_19 rfl ?_
      refine w_iret s56_20 rk56 ?_
      exact xq_end (by decide) (by decide) (by simp [S_mark, S_meets, x_in15, tn, *] <;> first | rfl | exact ⟨rfl, rfl⟩ | exact ⟨rfl, rfl, rfl⟩) hx
    · skip
      refine w_iload_n s56_15 rfl ?_
      refine w_ifne s56_16 rfl  (fun c16 => ?_) (fun c16 => ?_)
      · skip
        refine w_aload_n s56_21 rfl ?_
        refine w_getf s56_22 hx.o rfl ?_
        refine w_iload_n s56_25 rfl ?_
        refine w_callV1r s56_26 (hx.l 2 (by decide)) ow184 mc56_184 rfl rfl (hx.get 2 (by decide) (j) (show (j) < cc 20 by omega)) ?_
        refine w_cast s56_29 (hx.no (j) (by omega)) ?_
        refine w_astore_n s56_32 rfl ?_
        show am_wp _ (_, [_, _, _, _], _) _ _
        refine w_aload_n s56_33 rfl ?_
        refine w_getf s56_34 (hx.no (j) (by omega)) rfl ?_
        refine w_iload_n s56_37 rfl ?_
        refine w_callS2r s56_38 mc56_87 rfl rfl (c87 _ _ (by first | decide | assumption) _) ?_
        refine w_ifneB s56_41 rfl  (fun c41 => ?_) (fun c41 => ?_)
        · skip
          refine w_iload_n s56_50 rfl ?_
          rcases x_sw k 1 4 (by decide) (by decide) with hq | ⟨j51, hj1, hj2, hj3⟩
          · skip
            refine w_tswO s56_51 hq rfl ?_
            have d1 : ¬ k = 1 := fun e => by rw [e] at hq; revert hq; decide
            have d2 : ¬ k = 2 := fun e => by rw [e] at hq; revert hq; decide
            have d3 : ¬ k = 3 := fun e => by rw [e] at hq; revert hq; decide
            have d4 : ¬ k = 4 := fun e => by rw [e] at hq; revert hq; decide
            refine w_aload_n s56_101 rfl ?_
            refine w_aload_n s56_102 rfl ?_
            refine w_callV1r s56_103 hx.o ow101 mc56_101 rfl rfl (c101 hx iv (j) (by omega)) ?_
            refine w_iret s56_106 rk56 ?_
            exact xq_end (by decide) (by decide) (by simp [S_mark, S_meets, x_in15, tn, *] <;> first | rfl | exact ⟨rfl, rfl⟩ | exact ⟨rfl, rfl, rfl⟩) hx
          · skip
            obtain (rfl | rfl | rfl | rfl) : j51 = 1 ∨ j51 = 2 ∨ j51 = 3 ∨ j51 = 4 := by omega
            · skip
              have hj4 : k = 1 := hj3
              clear hj3
              subst hj4
              refine w_tswI (n := 0) s56_51 (by decide) rfl rfl rfl ?_
              refine w_aload_n s56_80 rfl ?_
              refine w_callV0r s56_81 (hx.no (j) (by omega)) ow12 mc56_12 rfl rfl (c12 hx iv (j) (by omega)) ?_
              refine w_iret s56_84 rk56 ?_
              exact xq_end (by decide) (by decide) (by simp [S_mark, S_meets, x_in15, tn, *] <;> first | rfl | exact ⟨rfl, rfl⟩ | exact ⟨rfl, rfl, rfl⟩) hx
            · skip
              have hj4 : k = 2 := hj3
              clear hj3
              subst hj4
              refine w_tswI (n := 1) s56_51 (by decide) rfl rfl rfl ?_
              refine w_aload_n s56_85 rfl ?_
              refine w_callV0r s56_86 (hx.no (j) (by omega)) ow14 mc56_14 rfl rfl (c14 hx iv (j) (by omega)) ?_
              refine w_iret s56_89 rk56 ?_
              exact xq_end (by decide) (by decide) (by simp [S_mark, S_meets, x_in15, tn, *] <;> first | rfl | exact ⟨rfl, rfl⟩ | exact ⟨rfl, rfl, rfl⟩) hx
            · skip
              have hj4 : k = 3 := hj3
              clear hj3
              subst hj4
              refine w_tswI (n := 2) s56_51 (by decide) rfl rfl rfl ?_
              refine w_aload_n s56_90 rfl ?_
              refine w_aload_n s56_91 rfl ?_
              refine w_callV1r s56_92 hx.o ow94 mc56_94 rfl rfl (c94 hx iv (j) (by omega)) ?_
              refine w_iret s56_95 rk56 ?_
              exact xq_end (by decide) (by decide) (by simp [S_mark, S_meets, x_in15, tn, *] <;> first | rfl | exact ⟨rfl, rfl⟩ | exact ⟨rfl, rfl, rfl⟩) hx
            · skip
              have hj4 : k = 4 := hj3
              clear hj3
              subst hj4
              refine w_tswI (n := 3) s56_51 (by decide) rfl rfl rfl ?_
              refine w_aload_n s56_96 rfl ?_
              refine w_getf s56_97 (hx.no (j) (by omega)) rfl ?_
              refine w_iret s56_100 rk56 ?_
              exact xq_end (by decide) (by decide) (by simp [S_mark, S_meets, x_in15, tn, *] <;> first | rfl | exact ⟨rfl, rfl⟩ | exact ⟨rfl, rfl, rfl⟩) hx
        · skip
          refine w_aload_n s56_44 rfl ?_
          refine w_iconst (v := 3) s56_45 rfl ?_
          refine w_callV1 s56_46 hx.o ow89 mc56_89 rfl rfl (c89 hx 3 (by decide)) ?_
          rintro v h ⟨rfl, hx⟩
          show am_wp _ (_, _, Value.int (-3) :: _) _ _
          refine w_iret s56_49 rk56 ?_
          exact xq_end (by decide) (by decide) (by simp [S_mark, S_meets, x_in15, tn, *] <;> first | rfl | exact ⟨rfl, rfl⟩ | exact ⟨rfl, rfl, rfl⟩) hx
      · skip
        refine w_iconst (v := (-1)) s56_19 rfl ?_
        refine w_iret s56_20 rk56 ?_
        exact xq_end (by decide) (by decide) (by simp [S_mark, S_meets, x_in15, tn, *] <;> first | rfl | exact ⟨rfl, rfl⟩ | exact ⟨rfl, rfl, rfl⟩) hx
theorem c58 {h : am_H} {cc : Nat → Nat} {aa : Nat → Nat → Int32} {P : x_P} {D : x_D} (hx : XL h 0 0 h cc aa P D) (iv : IV cc aa) : am_ev 58 [.ref 3] h (xQ h (S_mean cc aa)) := by
  have n0 := iv.n0
  have n2 := iv.n2
  have n3 := iv.n3
  have n7 := iv.n7
  have n8 := iv.n8
  have n16 := iv.n16
  have n20 := iv.n20
  have n28 := iv.n28
  have n31 := iv.n31
  have n38 := iv.n38
  have n45 := iv.n45
  show am_wp _ (_, [_, _, _, _, _], _) _ _
  refine w_iconst (v := 0) s58_0 rfl ?_
  refine w_istore_n s58_1 rfl ?_
  show am_wp _ (_, [_, _, _, _, _], _) _ _
  refine w_iconst (v := 0) s58_2 rfl ?_
  refine w_istore_n s58_3 rfl ?_
  show am_wp _ (_, [_, _, _, _, _], _) _ _
  refine w_iconst (v := 0) s58_4 rfl ?_
  refine w_istore_n s58_5 rfl ?_
  show am_wp _ (_, [_, _, _, _, _], _) _ _
  refine am_lp (n := cc 20) (P := fun i => ∀ v4 : Option Value, am_wp 58 (6, [_, some (.int (x_ms aa i)), some (.int (x_mn aa i)), some (.int (nI i)), v4], []) h _) ?_ 0 (Nat.zero_le _) _
  intro i hi ihi v4
  show am_wp _ (_, [_, _, _, _, _], _) _ _
  refine w_iload_n s58_6 rfl ?_
  refine w_aload_n s58_7 rfl ?_
  refine w_getf s58_8 hx.o rfl ?_
  refine w_callV0r s58_11 (hx.l 2 (by decide)) ow181 mc58_181 rfl rfl (hx.size 2 (by decide)) ?_
  refine w_icmpgeN (x := i) (y := cc 20) s58_14 rfl (by omega) (by omega)  (fun c14 => ?_) (fun c14 => ?_)
  · skip
    have e : i = cc 20 := by omega
    subst e
    refine w_iload_n s58_56 rfl ?_
    refine w_ifne s58_57 rfl  (fun c57 => ?_) (fun c57 => ?_)
    · skip
      refine w_iload_n s58_66 rfl ?_
      refine w_iload_n s58_67 rfl ?_
      refine w_idiv s58_68 (by assumption) rfl ?_
      refine w_iret s58_69 rk58 ?_
      exact xq_end (by decide) (by decide) (by simp [S_mean, S_meets, tn, *] <;> first | rfl | exact ⟨rfl, rfl⟩ | exact ⟨rfl, rfl, rfl⟩) hx
    · skip
      refine w_aload_n s58_60 rfl ?_
      refine w_iconst (v := 4) s58_61 rfl ?_
      refine w_callV1 s58_62 hx.o ow89 mc58_89 rfl rfl (c89 hx 4 (by decide)) ?_
      rintro v h ⟨rfl, hx⟩
      show am_wp _ (_, _, Value.int (-3) :: _) _ _
      refine w_iret s58_65 rk58 ?_
      exact xq_end (by decide) (by decide) (by simp [S_mean, S_meets, tn, *] <;> first | rfl | exact ⟨rfl, rfl⟩ | exact ⟨rfl, rfl, rfl⟩) hx
  · skip
    refine w_aload_n s58_17 rfl ?_
    refine w_getf s58_18 hx.o rfl ?_
    refine w_iload_n s58_21 rfl ?_
    refine w_callV1r s58_22 (hx.l 2 (by decide)) ow184 mc58_184 rfl rfl (hx.get 2 (by decide) (i) (show (i) < cc 20 by omega)) ?_
    refine w_cast s58_25 (hx.no (i) (by omega)) ?_
    refine w_astore s58_28 rfl ?_
    show am_wp _ (_, [_, _, _, _, _], _) _ _
    refine w_aload s58_30 rfl ?_
    refine w_getf s58_32 (hx.no (i) (by omega)) rfl ?_
    refine w_ifne s58_35 rfl  (fun c35 => ?_) (fun c35 => ?_)
    · skip
      refine w_iinc s58_50 rfl (nI_inc (i)) rfl ?_
      show am_wp _ (_, [_, _, _, _, _], _) _ _
      refine w_goto s58_53 rfl ?_
      refine am_wp_l (am_cons rfl (am_cons (am_si ?_) (am_cons (am_si ?_) (am_cons rfl (am_cons rfl rfl))))) (ihi (by omega) _)
      all_goals first | (clear ihi; simp [x_ms, x_mn, x_sum_s, *]; done) | (clear ihi; simp_all [x_ms, x_mn, x_sum_s]; done)
    · skip
      refine w_iload_n s58_38 rfl ?_
      refine w_aload_n s58_39 rfl ?_
      refine w_aload s58_40 rfl ?_
      refine w_callV1r s58_42 hx.o ow94 mc58_94 rfl rfl (c94 hx iv (i) (by omega)) ?_
      refine w_iadd s58_45 rfl ?_
      refine w_istore_n s58_46 rfl ?_
      show am_wp _ (_, [_, _, _, _, _], _) _ _
      refine w_iinc s58_47 rfl rfl rfl ?_
      show am_wp _ (_, [_, _, _, _, _], _) _ _
      refine w_iinc s58_50 rfl (nI_inc (i)) rfl ?_
      show am_wp _ (_, [_, _, _, _, _], _) _ _
      refine w_goto s58_53 rfl ?_
      refine am_wp_l (am_cons rfl (am_cons (am_si ?_) (am_cons (am_si ?_) (am_cons rfl (am_cons rfl rfl))))) (ihi (by omega) _)
      all_goals first | (clear ihi; simp [x_ms, x_mn, x_sum_s, *]; done) | (clear ihi; simp_all [x_ms, x_mn, x_sum_s]; done)
theorem c59 {h : am_H} {cc : Nat → Nat} {aa : Nat → Nat → Int32} {P : x_P} {D : x_D} (hx : XL h 0 0 h cc aa P D) (iv : IV cc aa) (n : Int32) : am_ev 59 [.ref 3, .int n] h (xQ h (S_back cc aa n)) := by
  have n0 := iv.n0
  have n2 := iv.n2
  have n3 := iv.n3
  have n7 := iv.n7
  have n8 := iv.n8
  have n16 := iv.n16
  have n20 := iv.n20
  have n28 := iv.n28
  have n31 := iv.n31
  have n38 := iv.n38
  have n45 := iv.n45
  show am_wp _ (_, [_, _, _], _) _ _
  refine w_aload_n s59_0 rfl ?_
  refine w_iload_n s59_1 rfl ?_
  refine w_callV1r s59_2 hx.o ow84 mc59_84 rfl rfl (c84 hx iv _) ?_
  refine w_ifneB s59_5 rfl  (fun c5 => ?_) (fun c5 => ?_)
  · skip
    obtain ⟨j, hj, rfl⟩ := x_ix_i c5
    have jcl := nI_clamp (show j < 2 ^ 31 by omega)
    refine w_aload_n s59_10 rfl ?_
    refine w_getf s59_11 hx.o rfl ?_
    refine w_iload_n s59_14 rfl ?_
    refine w_callV1r s59_15 (hx.l 2 (by decide)) ow184 mc59_184 rfl rfl (hx.get 2 (by decide) (j) (show (j) < cc 20 by omega)) ?_
    refine w_cast s59_18 (hx.no (j) (by omega)) ?_
    refine w_astore_n s59_21 rfl ?_
    show am_wp _ (_, [_, _, _], _) _ _
    refine w_aload_n s59_22 rfl ?_
    refine w_getf s59_23 (hx.no (j) (by omega)) rfl ?_
    refine w_ifne s59_26 rfl  (fun c26 => ?_) (fun c26 => ?_)
    · skip
      refine w_bipush (v := (-4)) s59_36 rfl ?_
      refine w_iret s59_38 rk59 ?_
      exact xq_end (by decide) (by decide) (by simp [S_back, tn, *] <;> first | rfl | exact ⟨rfl, rfl⟩ | exact ⟨rfl, rfl, rfl⟩) hx
    · skip
      refine w_aload_n s59_29 rfl ?_
      refine w_callV0r s59_30 (hx.no (j) (by omega)) ow13 mc59_13 rfl rfl (c13 hx iv (j) (by omega)) ?_
      refine w_ifeqB s59_33 rfl  (fun c33 => ?_) (fun c33 => ?_)
      · skip
        have c33x := of_decide_eq_false c33
        refine w_aload_n s59_39 rfl ?_
        refine w_iconst (v := 1) s59_40 rfl ?_
        refine x_ptb hx j (by omega) s59_41 (fun h hx => ?_)
        refine w_iconst (v := 1) s59_44 rfl ?_
        refine w_iret s59_45 rk59 ?_
        exact xq_end (by decide) (by decide) (by simp [S_back, tn, *] <;> first | rfl | exact ⟨rfl, rfl⟩ | exact ⟨rfl, rfl, rfl⟩) hx
      · skip
        have c33x := of_decide_eq_true c33
        refine w_bipush (v := (-4)) s59_36 rfl ?_
        refine w_iret s59_38 rk59 ?_
        exact xq_end (by decide) (by decide) (by simp [S_back, tn, *] <;> first | rfl | exact ⟨rfl, rfl⟩ | exact ⟨rfl, rfl, rfl⟩) hx
  · skip
    refine w_iconst (v := (-1)) s59_8 rfl ?_
    refine w_iret s59_9 rk59 ?_
    exact xq_end (by decide) (by decide) (by simp [S_back, tn, *] <;> first | rfl | exact ⟨rfl, rfl⟩ | exact ⟨rfl, rfl, rfl⟩) hx
theorem c72 {h : am_H} {cc : Nat → Nat} {aa : Nat → Nat → Int32} {P : x_P} {D : x_D} (hx : XL h 0 0 h cc aa P D) (iv : IV cc aa) (n k i : Int32) : am_ev 72 [.ref 3, .int n, .int k, .int i] h (xQ h (S_joined cc aa n k i)) := by
  have n0 := iv.n0
  have n2 := iv.n2
  have n3 := iv.n3
  have n7 := iv.n7
  have n8 := iv.n8
  have n16 := iv.n16
  have n20 := iv.n20
  have n28 := iv.n28
  have n31 := iv.n31
  have n38 := iv.n38
  have n45 := iv.n45
  show am_wp _ (_, [_, _, _, _, _, _, _], _) _ _
  refine w_aload_n s72_0 rfl ?_
  refine w_iload_n s72_1 rfl ?_
  refine w_callV1r s72_2 hx.o ow84 mc72_84 rfl rfl (c84 hx iv _) ?_
  refine w_ifeqB s72_5 rfl  (fun c5 => ?_) (fun c5 => ?_)
  · skip
    refine w_iconst (v := (-1)) s72_18 rfl ?_
    refine w_iret s72_19 rk72 ?_
    exact xq_end (by decide) (by decide) (by simp [S_joined, S_meets, tn, *] <;> first | rfl | exact ⟨rfl, rfl⟩ | exact ⟨rfl, rfl, rfl⟩) hx
  · skip
    obtain ⟨j, hj, rfl⟩ := x_ix_i c5
    have jcl := nI_clamp (show j < 2 ^ 31 by omega)
    refine w_iload_n s72_8 rfl ?_
    refine w_iconst (v := 1) s72_9 rfl ?_
    refine w_bipush (v := 16) s72_10 rfl ?_
    refine w_callS3r s72_12 mc72_77 rfl rfl (c77 _ _ _ _) ?_
    refine w_ifneB s72_15 rfl  (fun c15 => ?_) (fun c15 => ?_)
    · skip
      refine w_aload_n s72_20 rfl ?_
      refine w_getf s72_21 hx.o rfl ?_
      refine w_iload_n s72_24 rfl ?_
      refine w_callV1r s72_25 (hx.l 2 (by decide)) ow184 mc72_184 rfl rfl (hx.get 2 (by decide) (j) (show (j) < cc 20 by omega)) ?_
      refine w_cast s72_28 (hx.no (j) (by omega)) ?_
      refine w_astore s72_31 rfl ?_
      show am_wp _ (_, [_, _, _, _, _, _, _], _) _ _
      refine w_aload s72_33 rfl ?_
      refine w_getf s72_35 (hx.no (j) (by omega)) rfl ?_
      refine w_iconst (v := 4) s72_38 rfl ?_
      refine w_icmpeq s72_39 rfl  (fun c39 => ?_) (fun c39 => ?_)
      · skip
        refine w_iconst (v := 0) s72_48 rfl ?_
        refine w_istore s72_49 rfl ?_
        show am_wp _ (_, [_, _, _, _, _, _, _], _) _ _
        refine w_iconst (v := 0) s72_51 rfl ?_
        refine w_istore s72_52 rfl ?_
        show am_wp _ (_, [_, _, _, _, _, _, _], _) _ _
        refine am_lp (n := cc 20) (P := fun f => x_any (x_np (fun f => x_joins aa j f k) i) f = false → am_wp 72 (54, [_, _, _, _, _, some (.int (nI (x_ct (fun f => x_joins aa j f k) f))), some (.int (nI f))], []) h _) ?_ 0 (Nat.zero_le _) rfl
        intro f hf ihf hA
        show am_wp _ (_, [_, _, _, _, _, _, _], _) _ _
        refine w_iload s72_54 rfl ?_
        refine w_aload_n s72_56 rfl ?_
        refine w_getf s72_57 hx.o rfl ?_
        refine w_callV0r s72_60 (hx.l 2 (by decide)) ow181 mc72_181 rfl rfl (hx.size 2 (by decide)) ?_
        refine w_icmpgeN (x := f) (y := cc 20) s72_63 rfl (by omega) (by omega)  (fun c63 => ?_) (fun c63 => ?_)
        · skip
          have e : f = cc 20 := by omega
          subst e
          have hn9 : x_nth (fun f => x_joins aa j f k) (cc 20) i = -9 := x_first_f hA
          refine w_bipush (v := (-9)) s72_105 rfl ?_
          refine w_iret s72_107 rk72 ?_
          exact xq_end (by decide) (by decide) (by simp [S_joined, S_meets, tn, *] <;> first | rfl | exact ⟨rfl, rfl⟩ | exact ⟨rfl, rfl, rfl⟩) hx
        · skip
          have hct := x_ct_le (fun f => x_joins aa j f k) f
          refine w_aload s72_66 rfl ?_
          refine w_aload_n s72_68 rfl ?_
          refine w_getf s72_69 hx.o rfl ?_
          refine w_iload s72_72 rfl ?_
          refine w_callV1r s72_74 (hx.l 2 (by decide)) ow184 mc72_184 rfl rfl (hx.get 2 (by decide) (f) (show (f) < cc 20 by omega)) ?_
          refine w_cast s72_77 (hx.no (f) (by omega)) ?_
          refine w_iload_n s72_80 rfl ?_
          refine w_callS3r s72_81 mc72_100 rfl rfl (c100 hx iv (j) (f) (by omega) (by omega) _) ?_
          refine w_ifeqB s72_84 rfl  (fun c84 => ?_) (fun c84 => ?_)
          · skip
            have hnp : x_np (fun f => x_joins aa j f k) i f = false := by unfold x_np; simp only [c84]; rfl
            have hcs : x_ct (fun f => x_joins aa j f k) (f + 1) = x_ct (fun f => x_joins aa j f k) f := by rw [x_ct_s]; simp [c84]
            refine w_iinc s72_99 rfl (nI_inc (f)) rfl ?_
            show am_wp _ (_, [_, _, _, _, _, _, _], _) _ _
            refine w_goto s72_102 rfl ?_
            have ew := ihf (by omega) (by rw [x_any_s, hA, hnp]; rfl)
            rw [hcs] at ew
            exact ew
          · skip
            skip
            refine w_iload s72_87 rfl ?_
            refine w_iload_n s72_89 rfl ?_
            refine w_icmpne s72_90 rfl  (fun c90 => ?_) (fun c90 => ?_)
            · skip
              have hnp : x_np (fun f => x_joins aa j f k) i f = false := by unfold x_np; rw [decide_eq_false c90, Bool.and_false]
              have hcs : x_ct (fun f => x_joins aa j f k) (f + 1) = x_ct (fun f => x_joins aa j f k) f + 1 := by rw [x_ct_s]; simp [c84]
              refine w_iinc s72_96 rfl (nI_inc ((x_ct (fun f => x_joins aa j f k) f))) rfl ?_
              show am_wp _ (_, [_, _, _, _, _, _, _], _) _ _
              refine w_iinc s72_99 rfl (nI_inc (f)) rfl ?_
              show am_wp _ (_, [_, _, _, _, _, _, _], _) _ _
              refine w_goto s72_102 rfl ?_
              have ew := ihf (by omega) (by rw [x_any_s, hA, hnp]; rfl)
              rw [hcs] at ew
              exact ew
            · skip
              have hnp : x_np (fun f => x_joins aa j f k) i f = true := by unfold x_np; simp only [c84, decide_eq_true c90]; rfl
              refine w_iload s72_93 rfl ?_
              refine w_iret s72_95 rk72 ?_
              have hnk : x_nth (fun f => x_joins aa j f k) (cc 20) i = nI f := x_first_t hA hnp _ (by omega)
              exact xq_end (by decide) (by decide) (by simp [S_joined, tn, *] <;> first | rfl | exact ⟨rfl, rfl⟩ | exact ⟨rfl, rfl, rfl⟩) hx
      · skip
        refine w_aload_n s72_42 rfl ?_
        refine w_iconst (v := 3) s72_43 rfl ?_
        refine w_callV1 s72_44 hx.o ow89 mc72_89 rfl rfl (c89 hx 3 (by decide)) ?_
        rintro v h ⟨rfl, hx⟩
        show am_wp _ (_, _, Value.int (-3) :: _) _ _
        refine w_iret s72_47 rk72 ?_
        exact xq_end (by decide) (by decide) (by simp [S_joined, S_meets, tn, *] <;> first | rfl | exact ⟨rfl, rfl⟩ | exact ⟨rfl, rfl, rfl⟩) hx
    · skip
      refine w_iconst (v := (-1)) s72_18 rfl ?_
      refine w_iret s72_19 rk72 ?_
      exact xq_end (by decide) (by decide) (by simp [S_joined, S_meets, tn, *] <;> first | rfl | exact ⟨rfl, rfl⟩ | exact ⟨rfl, rfl, rfl⟩) hx
