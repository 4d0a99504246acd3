/-! the reference: notices -/
def x_cf (aa : Nat → Nat → Int32) (n q : Int32) (i : Nat) : Bool := decide (aa 37 i = 1) && decide (aa 32 i = n) && decide (aa 34 i = q)
def x_cn (aa : Nat → Nat → Int32) (n q : Int32) : Nat → Int32 := x_sum (fun i => am_bi (x_cf aa n q i))
theorem x_cn_s (aa : Nat → Nat → Int32) (n q : Int32) (i : Nat) : x_cn aa n q (i + 1) = x_cn aa n q i + am_bi (x_cf aa n q i) := rfl
def x_lk1 (cc : Nat → Nat) (aa : Nat → Nat → Int32) (j q : Nat) : Bool := x_has (aa 23 j) (nI q) && decide (x_cn aa (nI j) (nI q) (cc 31) < aa 24 j)
def x_lacks (cc : Nat → Nat) (aa : Nat → Nat → Int32) (j : Nat) : Int32 := x_sum (fun q => am_bi (x_lk1 cc aa j q)) (cc 3)
def x_tells (cc : Nat → Nat) (aa : Nat → Nat → Int32) (j : Nat) (w : Int32) : Int32 := if w = 0 then aa 21 j else if w = 1 then aa 22 j else if w = 2 then aa 23 j else if w = 3 then aa 24 j else if w = 4 then aa 26 j else if w = 5 then (if aa 27 j = 0 then 0 else 1) else (if x_lacks cc aa j = 0 then 1 else 0)
def x_told (cc : Nat → Nat) (aa : Nat → Nat → Int32) (n w : Int32) : Int32 := if x_ix (cc 20) n = true ∧ x_in w 0 6 = true then x_tells cc aa (tn n) w else -1
def x_fee (aa : Nat → Nat → Int32) (j : Nat) : Int32 := aa 22 j * aa 19 (tn (aa 21 j)) * x_bits (aa 23 j) * aa 24 j
def x_joins (aa : Nat → Nat → Int32) (l f : Nat) (k : Int32) : Bool := decide (aa 21 l = 4) && decide (aa 21 f = 5) && decide (aa 27 l = 0) && decide (aa 27 f = 0) && !decide (x_bits (aa 25 l &&& aa 25 f) < k)
def x_jl (cc : Nat → Nat) (aa : Nat → Nat → Int32) (j : Nat) : Int32 := x_sum (fun l => am_bi (x_joins aa l j 1)) (cc 20)
def x_ca (cc : Nat → Nat) (aa : Nat → Nat → Int32) (j : Nat) : Int32 := x_sum (fun q => x_cn aa (nI j) (nI q) (cc 31)) (cc 3)
def S_mark (cc : Nat → Nat) (aa : Nat → Nat → Int32) (n k : Int32) : x_A := if x_ix (cc 20) n = true ∧ x_in k 1 5 = true then (if x_fits (aa 21 (tn n)) k = true then ((if k = 1 then x_lacks cc aa (tn n) else if k = 2 then x_ca cc aa (tn n) else if k = 3 then x_fee aa (tn n) else if k = 4 then aa 25 (tn n) else x_jl cc aa (tn n)), cc, aa) else S_meets cc aa 3) else (-1, cc, aa)
def x_feeA (cc : Nat → Nat) (aa : Nat → Nat → Int32) (n : Int32) : Int32 := if x_ix (cc 20) n = true then x_fee aa (tn n) else -1
def x_mn (aa : Nat → Nat → Int32) : Nat → Int32 := x_sum (fun k => if aa 27 k = 0 then 1 else 0)
def x_ms (aa : Nat → Nat → Int32) : Nat → Int32 := x_sum (fun k => if aa 27 k = 0 then x_fee aa k else 0)
theorem x_mn_s (aa : Nat → Nat → Int32) (k : Nat) : x_mn aa (k + 1) = x_mn aa k + (if aa 27 k = 0 then 1 else 0) := rfl
theorem x_ms_s (aa : Nat → Nat → Int32) (k : Nat) : x_ms aa (k + 1) = x_ms aa k + (if aa 27 k = 0 then x_fee aa k else 0) := rfl
def S_mean (cc : Nat → Nat) (aa : Nat → Nat → Int32) : x_A := if x_mn aa (cc 20) = 0 then S_meets cc aa 4 else (x_ms aa (cc 20) / x_mn aa (cc 20), cc, aa)
def S_back (cc : Nat → Nat) (aa : Nat → Nat → Int32) (n : Int32) : x_A := if x_ix (cc 20) n = true then (if aa 27 (tn n) = 0 ∧ ¬ x_lacks cc aa (tn n) = 0 then (1, cc, ua aa 27 (upd (aa 27) (tn n) 1)) else (-4, cc, aa)) else (-1, cc, aa)
def S_crier (cc : Nat → Nat) (aa : Nat → Nat → Int32) (q : Int32) : x_A := if x_ix (cc 3) q = true then (if cc 28 = 6 then (-2, cc, aa) else (nI (cc 28), uc cc 28 (cc 28 + 1), ua aa 29 (upd (aa 29) (cc 28) q))) else (-1, cc, aa)
theorem c138 {h : am_H} {cc : Nat → Nat} {aa : Nat → Nat → Int32} (hw : MW h cc aa) (n31 : cc 31 ≤ 400) (n q : Int32) : am_rd 138 [.ref 27, .int n, .int q] h (.int (x_cn aa n q (cc 31))) := by
  show am_wp _ (_, [_, _, _, _, _], _) _ _
  refine w_iconst (v := 0) s138_0 rfl ?_
  refine w_istore_n s138_1 rfl ?_
  show am_wp _ (_, [_, _, _, _, _], _) _ _
  refine w_iconst (v := 0) s138_2 rfl ?_
  refine w_istore s138_3 rfl ?_
  show am_wp _ (_, [_, _, _, _, _], _) _ _
  refine am_lp (n := cc 31) (P := fun i => am_wp 138 (5, [_, _, _, some (.int (x_cn aa n q i)), some (.int (nI i))], []) h _) ?_ 0 (Nat.zero_le _)
  intro i hi ihi
  show am_wp _ (_, [_, _, _, _, _], _) _ _
  refine w_iload s138_5 rfl ?_
  refine w_aload_n s138_7 rfl ?_
  refine w_getf s138_8 (hw 0 _ rfl) rfl ?_
  refine w_icmpgeN (x := i) (y := cc 31) s138_11 rfl (by omega) (by omega)  (fun c11 => ?_) (fun c11 => ?_)
  · skip
    have e : i = cc 31 := by omega
    subst e
    refine w_iload_n s138_61 rfl ?_
    refine w_iret s138_62 rk138 ?_
    exact ⟨rfl, rfl⟩
  · skip
    refine w_iload_n s138_14 rfl ?_
    refine w_aload_n s138_15 rfl ?_
    refine w_getf s138_16 (hw 0 _ rfl) rfl ?_
    refine w_iload s138_19 rfl ?_
    refine w_ialdN (y := i) s138_21 (hw 29 _ rfl) (by omega) (by decide) ?_
    refine w_iconst (v := 1) s138_22 rfl ?_
    refine w_icmpne s138_23 rfl  (fun c23 => ?_) (fun c23 => ?_)
    · skip
      refine w_iconst (v := 0) s138_52 rfl ?_
      refine w_iadd s138_53 rfl ?_
      refine w_istore_n s138_54 rfl ?_
      show am_wp _ (_, [_, _, _, _, _], _) _ _
      refine w_iinc s138_55 rfl (nI_inc (i)) rfl ?_
      show am_wp _ (_, [_, _, _, _, _], _) _ _
      refine w_goto s138_58 rfl ?_
      refine am_wp_l (am_cons rfl (am_cons rfl (am_cons rfl (am_cons (am_si ?_) (am_cons rfl rfl))))) (ihi (by omega))
      all_goals first | (clear ihi; simp [x_cn_s, x_cf, am_bi, *]; done) | (clear ihi; simp_all [x_cn_s, x_cf, am_bi]; done)
    · skip
      refine w_aload_n s138_26 rfl ?_
      refine w_getf s138_27 (hw 0 _ rfl) rfl ?_
      refine w_iload s138_30 rfl ?_
      refine w_ialdN (y := i) s138_32 (hw 24 _ rfl) (by omega) (by decide) ?_
      refine w_iload_n s138_33 rfl ?_
      refine w_icmpne s138_34 rfl  (fun c34 => ?_) (fun c34 => ?_)
      · skip
        refine w_iconst (v := 0) s138_52 rfl ?_
        refine w_iadd s138_53 rfl ?_
        refine w_istore_n s138_54 rfl ?_
        show am_wp _ (_, [_, _, _, _, _], _) _ _
        refine w_iinc s138_55 rfl (nI_inc (i)) rfl ?_
        show am_wp _ (_, [_, _, _, _, _], _) _ _
        refine w_goto s138_58 rfl ?_
        refine am_wp_l (am_cons rfl (am_cons rfl (am_cons rfl (am_cons (am_si ?_) (am_cons rfl rfl))))) (ihi (by omega))
        all_goals first | (clear ihi; simp [x_cn_s, x_cf, am_bi, *]; done) | (clear ihi; simp_all [x_cn_s, x_cf, am_bi]; done)
      · skip
        refine w_aload_n s138_37 rfl ?_
        refine w_getf s138_38 (hw 0 _ rfl) rfl ?_
        refine w_iload s138_41 rfl ?_
        refine w_ialdN (y := i) s138_43 (hw 26 _ rfl) (by omega) (by decide) ?_
        refine w_iload_n s138_44 rfl ?_
        refine w_icmpne s138_45 rfl  (fun c45 => ?_) (fun c45 => ?_)
        · skip
          refine w_iconst (v := 0) s138_52 rfl ?_
          refine w_iadd s138_53 rfl ?_
          refine w_istore_n s138_54 rfl ?_
          show am_wp _ (_, [_, _, _, _, _], _) _ _
          refine w_iinc s138_55 rfl (nI_inc (i)) rfl ?_
          show am_wp _ (_, [_, _, _, _, _], _) _ _
          refine w_goto s138_58 rfl ?_
          refine am_wp_l (am_cons rfl (am_cons rfl (am_cons rfl (am_cons (am_si ?_) (am_cons rfl rfl))))) (ihi (by omega))
          all_goals first | (clear ihi; simp [x_cn_s, x_cf, am_bi, *]; done) | (clear ihi; simp_all [x_cn_s, x_cf, am_bi]; done)
        · skip
          refine w_iconst (v := 1) s138_48 rfl ?_
          refine w_goto s138_49 rfl ?_
          refine w_iadd s138_53 rfl ?_
          refine w_istore_n s138_54 rfl ?_
          show am_wp _ (_, [_, _, _, _, _], _) _ _
          refine w_iinc s138_55 rfl (nI_inc (i)) rfl ?_
          show am_wp _ (_, [_, _, _, _, _], _) _ _
          refine w_goto s138_58 rfl ?_
          refine am_wp_l (am_cons rfl (am_cons rfl (am_cons rfl (am_cons (am_si ?_) (am_cons rfl rfl))))) (ihi (by omega))
          all_goals first | (clear ihi; simp [x_cn_s, x_cf, am_bi, *]; done) | (clear ihi; simp_all [x_cn_s, x_cf, am_bi]; done)
theorem c139 {h : am_H} {cc : Nat → Nat} {aa : Nat → Nat → Int32} (hw : MW h cc aa) (iv : IV cc aa) (j : Nat) (hj : j < cc 20) : am_rd 139 [.ref 27, .int (nI j)] h (.int (x_lacks cc aa j)) := by
  have n0 := iv.n0
  have n2 := iv.n2
  have n3 := iv.n3
  have n7 := iv.n7
  have n8 := iv.n8
  have n16 := iv.n16
  have n20 := iv.n20
  have n28 := iv.n28
  have n31 := iv.n31
  have n38 := iv.n38
  have n45 := iv.n45
  show am_wp _ (_, [_, _, _, _], _) _ _
  refine w_iconst (v := 0) s139_0 rfl ?_
  refine w_istore_n s139_1 rfl ?_
  show am_wp _ (_, [_, _, _, _], _) _ _
  refine w_iconst (v := 0) s139_2 rfl ?_
  refine w_istore_n s139_3 rfl ?_
  show am_wp _ (_, [_, _, _, _], _) _ _
  refine am_lp (n := cc 3) (P := fun q => am_wp 139 (4, [_, _, some (.int (x_sum (fun q => am_bi (x_lk1 cc aa j q)) q)), some (.int (nI q))], []) h _) ?_ 0 (Nat.zero_le _)
  intro q hq ihq
  show am_wp _ (_, [_, _, _, _], _) _ _
  refine w_iload_n s139_4 rfl ?_
  refine w_aload_n s139_5 rfl ?_
  refine w_getf s139_6 (hw 0 _ rfl) rfl ?_
  refine w_icmpgeN (x := q) (y := cc 3) s139_9 rfl (by omega) (by omega)  (fun c9 => ?_) (fun c9 => ?_)
  · skip
    have e : q = cc 3 := by omega
    subst e
    refine w_iload_n s139_54 rfl ?_
    refine w_iret s139_55 rk139 ?_
    exact ⟨rfl, rfl⟩
  · skip
    refine w_iload_n s139_12 rfl ?_
    refine w_aload_n s139_13 rfl ?_
    refine w_getf s139_14 (hw 0 _ rfl) rfl ?_
    refine w_iload_n s139_17 rfl ?_
    refine w_ialdN (y := j) s139_18 (hw 17 _ rfl) (by omega) (by decide) ?_
    refine w_iload_n s139_19 rfl ?_
    refine w_callS2r s139_20 mc139_105 rfl rfl (c105 _ _ _) ?_
    refine w_ifeqB s139_23 rfl  (fun c23 => ?_) (fun c23 => ?_)
    · skip
      refine w_iconst (v := 0) s139_45 rfl ?_
      refine w_iadd s139_46 rfl ?_
      refine w_istore_n s139_47 rfl ?_
      show am_wp _ (_, [_, _, _, _], _) _ _
      refine w_iinc s139_48 rfl (nI_inc (q)) rfl ?_
      show am_wp _ (_, [_, _, _, _], _) _ _
      refine w_goto s139_51 rfl ?_
      refine am_wp_l (am_cons rfl (am_cons rfl (am_cons (am_si ?_) (am_cons rfl rfl)))) (ihq (by omega))
      all_goals first | (clear ihq; simp [x_sum_s, x_lk1, am_bi, *]; done) | (clear ihq; simp_all [x_sum_s, x_lk1, am_bi]; done)
    · skip
      refine w_aload_n s139_26 rfl ?_
      refine w_iload_n s139_27 rfl ?_
      refine w_iload_n s139_28 rfl ?_
      refine w_callV2r s139_29 (hw 0 _ rfl) ow138 mc139_138 rfl rfl (c138 hw n31 _ _) ?_
      refine w_aload_n s139_32 rfl ?_
      refine w_getf s139_33 (hw 0 _ rfl) rfl ?_
      refine w_iload_n s139_36 rfl ?_
      refine w_ialdN (y := j) s139_37 (hw 18 _ rfl) (by omega) (by decide) ?_
      refine w_icmpge s139_38 rfl  (fun c38 => ?_) (fun c38 => ?_)
      · skip
        refine w_iconst (v := 0) s139_45 rfl ?_
        refine w_iadd s139_46 rfl ?_
        refine w_istore_n s139_47 rfl ?_
        show am_wp _ (_, [_, _, _, _], _) _ _
        refine w_iinc s139_48 rfl (nI_inc (q)) rfl ?_
        show am_wp _ (_, [_, _, _, _], _) _ _
        refine w_goto s139_51 rfl ?_
        refine am_wp_l (am_cons rfl (am_cons rfl (am_cons (am_si ?_) (am_cons rfl rfl)))) (ihq (by omega))
        all_goals first | (clear ihq; simp [x_sum_s, x_lk1, am_bi, *]; done) | (clear ihq; simp_all [x_sum_s, x_lk1, am_bi]; done)
      · skip
        refine w_iconst (v := 1) s139_41 rfl ?_
        refine w_goto s139_42 rfl ?_
        refine w_iadd s139_46 rfl ?_
        refine w_istore_n s139_47 rfl ?_
        show am_wp _ (_, [_, _, _, _], _) _ _
        refine w_iinc s139_48 rfl (nI_inc (q)) rfl ?_
        show am_wp _ (_, [_, _, _, _], _) _ _
        refine w_goto s139_51 rfl ?_
        refine am_wp_l (am_cons rfl (am_cons rfl (am_cons (am_si ?_) (am_cons rfl rfl)))) (ihq (by omega))
        all_goals first | (clear ihq; simp [x_sum_s, x_lk1, am_bi, *]; done) | (clear ihq; simp_all [x_sum_s, x_lk1, am_bi]; done)
theorem c140 {h : am_H} {cc : Nat → Nat} {aa : Nat → Nat → Int32} (hw : MW h cc aa) (iv : IV cc aa) (j : Nat) (hj : j < cc 20) (w : Int32) : am_rd 140 [.ref 27, .int (nI j), .int w] h (.int (x_tells cc aa j w)) := by
  have n0 := iv.n0
  have n2 := iv.n2
  have n3 := iv.n3
  have n7 := iv.n7
  have n8 := iv.n8
  have n16 := iv.n16
  have n20 := iv.n20
  have n28 := iv.n28
  have n31 := iv.n31
  have n38 := iv.n38
  have n45 := iv.n45
  show am_wp _ (_, [_, _, _], _) _ _
  refine w_iload_n s140_0 rfl ?_
  rcases x_sw w 0 5 (by decide) (by decide) with hq | ⟨j1, hj1, hj2, hj3⟩
  · skip
    refine w_tswO s140_1 hq rfl ?_
    have d0 : ¬ w = 0 := fun e => by rw [e] at hq; revert hq; decide
    have d1 : ¬ w = 1 := fun e => by rw [e] at hq; revert hq; decide
    have d2 : ¬ w = 2 := fun e => by rw [e] at hq; revert hq; decide
    have d3 : ¬ w = 3 := fun e => by rw [e] at hq; revert hq; decide
    have d4 : ¬ w = 4 := fun e => by rw [e] at hq; revert hq; decide
    have d5 : ¬ w = 5 := fun e => by rw [e] at hq; revert hq; decide
    refine w_aload_n s140_90 rfl ?_
    refine w_iload_n s140_91 rfl ?_
    refine w_callV1r s140_92 (hw 0 _ rfl) ow139 mc140_139 rfl rfl (c139 hw iv j (by omega)) ?_
    refine w_ifne s140_95 rfl  (fun c95 => ?_) (fun c95 => ?_)
    · skip
      refine w_iconst (v := 0) s140_102 rfl ?_
      refine w_iret s140_103 rk140 ?_
      exact ⟨by simp [x_tells, *], rfl⟩
    · skip
      refine w_iconst (v := 1) s140_98 rfl ?_
      refine w_goto s140_99 rfl ?_
      refine w_iret s140_103 rk140 ?_
      exact ⟨by simp [x_tells, *], rfl⟩
  · skip
    obtain (rfl | rfl | rfl | rfl | rfl | rfl) : j1 = 0 ∨ j1 = 1 ∨ j1 = 2 ∨ j1 = 3 ∨ j1 = 4 ∨ j1 = 5 := by omega
    · skip
      have hj4 : w = 0 := hj3
      clear hj3
      subst hj4
      refine w_tswI (n := 0) s140_1 (by decide) rfl rfl rfl ?_
      refine w_aload_n s140_40 rfl ?_
      refine w_getf s140_41 (hw 0 _ rfl) rfl ?_
      refine w_iload_n s140_44 rfl ?_
      refine w_ialdN (y := j) s140_45 (hw 15 _ rfl) (by omega) (by decide) ?_
      refine w_iret s140_46 rk140 ?_
      exact ⟨by simp [x_tells, *], rfl⟩
    · skip
      have hj4 : w = 1 := hj3
      clear hj3
      subst hj4
      refine w_tswI (n := 1) s140_1 (by decide) rfl rfl rfl ?_
      refine w_aload_n s140_47 rfl ?_
      refine w_getf s140_48 (hw 0 _ rfl) rfl ?_
      refine w_iload_n s140_51 rfl ?_
      refine w_ialdN (y := j) s140_52 (hw 16 _ rfl) (by omega) (by decide) ?_
      refine w_iret s140_53 rk140 ?_
      exact ⟨by simp [x_tells, *], rfl⟩
    · skip
      have hj4 : w = 2 := hj3
      clear hj3
      subst hj4
      refine w_tswI (n := 2) s140_1 (by decide) rfl rfl rfl ?_
      refine w_aload_n s140_54 rfl ?_
      refine w_getf s140_55 (hw 0 _ rfl) rfl ?_
      refine w_iload_n s140_58 rfl ?_
      refine w_ialdN (y := j) s140_59 (hw 17 _ rfl) (by omega) (by decide) ?_
      refine w_iret s140_60 rk140 ?_
      exact ⟨by simp [x_tells, *], rfl⟩
    · skip
      have hj4 : w = 3 := hj3
      clear hj3
      subst hj4
      refine w_tswI (n := 3) s140_1 (by decide) rfl rfl rfl ?_
      refine w_aload_n s140_61 rfl ?_
      refine w_getf s140_62 (hw 0 _ rfl) rfl ?_
      refine w_iload_n s140_65 rfl ?_
      refine w_ialdN (y := j) s140_66 (hw 18 _ rfl) (by omega) (by decide) ?_
      refine w_iret s140_67 rk140 ?_
      exact ⟨by simp [x_tells, *], rfl⟩
    · skip
      have hj4 : w = 4 := hj3
      clear hj3
      subst hj4
      refine w_tswI (n := 4) s140_1 (by decide) rfl rfl rfl ?_
      refine w_aload_n s140_68 rfl ?_
      refine w_getf s140_69 (hw 0 _ rfl) rfl ?_
      refine w_iload_n s140_72 rfl ?_
      refine w_ialdN (y := j) s140_73 (hw 20 _ rfl) (by omega) (by decide) ?_
      refine w_iret s140_74 rk140 ?_
      exact ⟨by simp [x_tells, *], rfl⟩
    · skip
      have hj4 : w = 5 := hj3
      clear hj3
      subst hj4
      refine w_tswI (n := 5) s140_1 (by decide) rfl rfl rfl ?_
      refine w_aload_n s140_75 rfl ?_
      refine w_getf s140_76 (hw 0 _ rfl) rfl ?_
      refine w_iload_n s140_79 rfl ?_
      refine w_baldN (y := j) s140_80 (hw 21 _ rfl) (Or.inr rfl) (by omega) (by decide) ?_
      refine w_ifeq s140_81 rfl  (fun c81 => ?_) (fun c81 => ?_)
      · skip
        refine w_iconst (v := 0) s140_88 rfl ?_
        refine w_iret s140_89 rk140 ?_
        exact ⟨by simp [x_tells, *], rfl⟩
      · skip
        refine w_iconst (v := 1) s140_84 rfl ?_
        refine w_goto s140_85 rfl ?_
        refine w_iret s140_89 rk140 ?_
        exact ⟨by simp [x_tells, *], rfl⟩
theorem c141 {h : am_H} {cc : Nat → Nat} {aa : Nat → Nat → Int32} (hw : MW h cc aa) (iv : IV cc aa) (n w : Int32) : am_rd 141 [.ref 27, .int n, .int w] h (.int (x_told cc aa n w)) := by
  have n0 := iv.n0
  have n2 := iv.n2
  have n3 := iv.n3
  have n7 := iv.n7
  have n8 := iv.n8
  have n16 := iv.n16
  have n20 := iv.n20
  have n28 := iv.n28
  have n31 := iv.n31
  have n38 := iv.n38
  have n45 := iv.n45
  show am_wp _ (_, [_, _, _], _) _ _
  refine w_aload_n s141_0 rfl ?_
  refine w_iload_n s141_1 rfl ?_
  refine w_callV1r s141_2 (hw 0 _ rfl) ow135 mc141_135 rfl rfl (c135 hw iv _) ?_
  refine w_ifeqB s141_5 rfl  (fun c5 => ?_) (fun c5 => ?_)
  · skip
    refine w_iconst (v := (-1)) s141_27 rfl ?_
    refine w_iret s141_28 rk141 ?_
    exact ⟨by simp [x_told, *], rfl⟩
  · skip
    obtain ⟨j, hj, rfl⟩ := x_ix_i c5
    have jcl := nI_clamp (show j < 2 ^ 31 by omega)
    refine w_iload_n s141_8 rfl ?_
    refine w_iconst (v := 0) s141_9 rfl ?_
    refine w_bipush (v := 6) s141_10 rfl ?_
    refine w_callS3r s141_12 mc141_103 rfl rfl (c103 _ _ _ _) ?_
    refine w_ifeqB s141_15 rfl  (fun c15 => ?_) (fun c15 => ?_)
    · skip
      refine w_iconst (v := (-1)) s141_27 rfl ?_
      refine w_iret s141_28 rk141 ?_
      exact ⟨by simp [x_told, *], rfl⟩
    · skip
      refine w_aload_n s141_18 rfl ?_
      refine w_iload_n s141_19 rfl ?_
      refine w_iload_n s141_20 rfl ?_
      refine w_callV2r s141_21 (hw 0 _ rfl) ow140 mc141_140 rfl rfl (c140 hw iv j (by omega) _) ?_
      refine w_goto s141_24 rfl ?_
      refine w_iret s141_28 rk141 ?_
      exact ⟨by simp [x_told, *], rfl⟩
theorem c142 {h : am_H} {cc : Nat → Nat} {aa : Nat → Nat → Int32} (hw : MW h cc aa) (iv : IV cc aa) (j : Nat) (hj : j < cc 20) : am_rd 142 [.ref 27, .int (nI j)] h (.int (x_fee aa j)) := by
  have n0 := iv.n0
  have n2 := iv.n2
  have n3 := iv.n3
  have n7 := iv.n7
  have n8 := iv.n8
  have n16 := iv.n16
  have n20 := iv.n20
  have n28 := iv.n28
  have n31 := iv.n31
  have n38 := iv.n38
  have n45 := iv.n45
  obtain ⟨k, hk, ek⟩ := iv.ki j hj
  have kcl := nI_clamp (show k < 2 ^ 31 by omega)
  show am_wp _ (_, [_, _], _) _ _
  refine w_aload_n s142_0 rfl ?_
  refine w_getf s142_1 (hw 0 _ rfl) rfl ?_
  refine w_iload_n s142_4 rfl ?_
  refine w_ialdN (y := j) s142_5 (hw 16 _ rfl) (by omega) (by decide) ?_
  refine w_aload_n s142_6 rfl ?_
  refine w_getf s142_7 (hw 0 _ rfl) rfl ?_
  refine w_aload_n s142_10 rfl ?_
  refine w_getf s142_11 (hw 0 _ rfl) rfl ?_
  refine w_iload_n s142_14 rfl ?_
  refine w_ialdV (y := j) (v := nI k) s142_15 (hw 15 _ rfl) (by omega) (by decide) ek ?_
  refine w_ialdN (y := k) s142_16 (hw 14 _ rfl) (by omega) (by decide) ?_
  refine w_imul s142_17 rfl ?_
  refine w_aload_n s142_18 rfl ?_
  refine w_getf s142_19 (hw 0 _ rfl) rfl ?_
  refine w_iload_n s142_22 rfl ?_
  refine w_ialdN (y := j) s142_23 (hw 17 _ rfl) (by omega) (by decide) ?_
  refine w_callS1r s142_24 mc142_106 rfl rfl (c106 _ _) ?_
  refine w_imul s142_27 rfl ?_
  refine w_aload_n s142_28 rfl ?_
  refine w_getf s142_29 (hw 0 _ rfl) rfl ?_
  refine w_iload_n s142_32 rfl ?_
  refine w_ialdN (y := j) s142_33 (hw 18 _ rfl) (by omega) (by decide) ?_
  refine w_imul s142_34 rfl ?_
  refine w_iret s142_35 rk142 ?_
  exact ⟨by simp [x_fee, *], rfl⟩
theorem c143 {h : am_H} {cc : Nat → Nat} {aa : Nat → Nat → Int32} (hw : MW h cc aa) (n20 : cc 20 ≤ 40) (l f : Nat) (hl : l < cc 20) (hf : f < cc 20) (k : Int32) : am_rd 143 [.ref 27, .int (nI l), .int (nI f), .int k] h (.int (am_bi (x_joins aa l f k))) := by
  show am_wp _ (_, [_, _, _, _], _) _ _
  refine w_aload_n s143_0 rfl ?_
  refine w_getf s143_1 (hw 0 _ rfl) rfl ?_
  refine w_iload_n s143_4 rfl ?_
  refine w_ialdN (y := l) s143_5 (hw 15 _ rfl) (by omega) (by decide) ?_
  refine w_iconst (v := 4) s143_6 rfl ?_
  refine w_icmpne s143_7 rfl  (fun c7 => ?_) (fun c7 => ?_)
  · skip
    refine w_iconst (v := 0) s143_62 rfl ?_
    refine w_zret0 s143_63 rk143 ?_
    first | exact ⟨am_zz (by simp [x_joins, *]), rfl⟩ | exact ⟨am_zo (by simp [x_joins, *]), rfl⟩
  · skip
    refine w_aload_n s143_10 rfl ?_
    refine w_getf s143_11 (hw 0 _ rfl) rfl ?_
    refine w_iload_n s143_14 rfl ?_
    refine w_ialdN (y := f) s143_15 (hw 15 _ rfl) (by omega) (by decide) ?_
    refine w_iconst (v := 5) s143_16 rfl ?_
    refine w_icmpne s143_17 rfl  (fun c17 => ?_) (fun c17 => ?_)
    · skip
      refine w_iconst (v := 0) s143_62 rfl ?_
      refine w_zret0 s143_63 rk143 ?_
      first | exact ⟨am_zz (by simp [x_joins, *]), rfl⟩ | exact ⟨am_zo (by simp [x_joins, *]), rfl⟩
    · skip
      refine w_aload_n s143_20 rfl ?_
      refine w_getf s143_21 (hw 0 _ rfl) rfl ?_
      refine w_iload_n s143_24 rfl ?_
      refine w_baldN (y := l) s143_25 (hw 21 _ rfl) (Or.inr rfl) (by omega) (by decide) ?_
      refine w_ifne s143_26 rfl  (fun c26 => ?_) (fun c26 => ?_)
      · skip
        refine w_iconst (v := 0) s143_62 rfl ?_
        refine w_zret0 s143_63 rk143 ?_
        first | exact ⟨am_zz (by simp [x_joins, *]), rfl⟩ | exact ⟨am_zo (by simp [x_joins, *]), rfl⟩
      · skip
        refine w_aload_n s143_29 rfl ?_
        refine w_getf s143_30 (hw 0 _ rfl) rfl ?_
        refine w_iload_n s143_33 rfl ?_
        refine w_baldN (y := f) s143_34 (hw 21 _ rfl) (Or.inr rfl) (by omega) (by decide) ?_
        refine w_ifne s143_35 rfl  (fun c35 => ?_) (fun c35 => ?_)
        · skip
          refine w_iconst (v := 0) s143_62 rfl ?_
          refine w_zret0 s143_63 rk143 ?_
          first | exact ⟨am_zz (by simp [x_joins, *]), rfl⟩ | exact ⟨am_zo (by simp [x_joins, *]), rfl⟩
        · skip
          refine w_aload_n s143_38 rfl ?_
          refine w_getf s143_39 (hw 0 _ rfl) rfl ?_
          refine w_iload_n s143_42 rfl ?_
          refine w_ialdN (y := l) s143_43 (hw 19 _ rfl) (by omega) (by decide) ?_
          refine w_aload_n s143_44 rfl ?_
          refine w_getf s143_45 (hw 0 _ rfl) rfl ?_
          refine w_iload_n s143_48 rfl ?_
          refine w_ialdN (y := f) s143_49 (hw 19 _ rfl) (by omega) (by decide) ?_
          refine w_iand s143_50 rfl ?_
          refine w_callS1r s143_51 mc143_106 rfl rfl (c106 _ _) ?_
          refine w_iload_n s143_54 rfl ?_
          refine w_icmplt s143_55 rfl  (fun c55 => ?_) (fun c55 => ?_)
          · skip
            refine w_iconst (v := 0) s143_62 rfl ?_
            refine w_zret0 s143_63 rk143 ?_
            first | exact ⟨am_zz (by simp [x_joins, *]), rfl⟩ | exact ⟨am_zo (by simp [x_joins, *]), rfl⟩
          · skip
            refine w_iconst (v := 1) s143_58 rfl ?_
            refine w_goto s143_59 rfl ?_
            refine w_zret1 s143_63 rk143 ?_
            first | exact ⟨am_zz (by simp [x_joins, *]), rfl⟩ | exact ⟨am_zo (by simp [x_joins, *]), rfl⟩
theorem c144 {h : am_H} {cc : Nat → Nat} {aa : Nat → Nat → Int32} (hw : MW h cc aa) (iv : IV cc aa) (n k : Int32) : am_ev 144 [.ref 27, .int n, .int k] h (mQ h (S_mark cc aa n k)) := by
  have fr := mFr.rf h
  have n0 := iv.n0
  have n2 := iv.n2
  have n3 := iv.n3
  have n7 := iv.n7
  have n8 := iv.n8
  have n16 := iv.n16
  have n20 := iv.n20
  have n28 := iv.n28
  have n31 := iv.n31
  have n38 := iv.n38
  have n45 := iv.n45
  show am_wp _ (_, [_, _, _, _, _], _) _ _
  refine w_aload_n s144_0 rfl ?_
  refine w_iload_n s144_1 rfl ?_
  refine w_callV1r s144_2 (hw 0 _ rfl) ow135 mc144_135 rfl rfl (c135 hw iv _) ?_
  refine w_ifeqB s144_5 rfl  (fun c5 => ?_) (fun c5 => ?_)
  · skip
    refine w_iconst (v := (-1)) s144_17 rfl ?_
    refine w_iret s144_18 rk144 ?_
    exact mq_end (by simp [S_mark, *] <;> first | rfl | exact ⟨rfl, rfl⟩ | exact ⟨rfl, rfl, rfl⟩) hw fr
  · skip
    obtain ⟨j, hj, rfl⟩ := x_ix_i c5
    have jcl := nI_clamp (show j < 2 ^ 31 by omega)
    refine w_iload_n s144_8 rfl ?_
    refine w_iconst (v := 1) s144_9 rfl ?_
    refine w_iconst (v := 5) s144_10 rfl ?_
    refine w_callS3r s144_11 mc144_103 rfl rfl (c103 _ _ _ _) ?_
    refine w_ifneB s144_14 rfl  (fun c14 => ?_) (fun c14 => ?_)
    · skip
      refine w_aload_n s144_19 rfl ?_
      refine w_getf s144_20 (hw 0 _ rfl) rfl ?_
      refine w_iload_n s144_23 rfl ?_
      refine w_ialdN (y := j) s144_24 (hw 15 _ rfl) (by omega) (by decide) ?_
      refine w_iload_n s144_25 rfl ?_
      refine w_callS2r s144_26 mc144_136 rfl rfl (c136 _ _ _) ?_
      refine w_ifneB s144_29 rfl  (fun c29 => ?_) (fun c29 => ?_)
      · skip
        refine w_iconst (v := 0) s144_38 rfl ?_
        refine w_istore_n s144_39 rfl ?_
        show am_wp _ (_, [_, _, _, _, _], _) _ _
        refine w_iload_n s144_40 rfl ?_
        rcases x_sw k 1 4 (by decide) (by decide) with hq | ⟨j41, hj1, hj2, hj3⟩
        · skip
          refine w_tswO s144_41 hq rfl ?_
          have d1 : ¬ k = 1 := fun e => by rw [e] at hq; revert hq; decide
          have d2 : ¬ k = 2 := fun e => by rw [e] at hq; revert hq; decide
          have d3 : ¬ k = 3 := fun e => by rw [e] at hq; revert hq; decide
          have d4 : ¬ k = 4 := fun e => by rw [e] at hq; revert hq; decide
          refine w_iconst (v := 0) s144_121 rfl ?_
          refine w_istore s144_122 rfl ?_
          show am_wp _ (_, [_, _, _, _, _], _) _ _
          refine am_lp (n := cc 20) (P := fun l => am_wp 144 (124, [_, _, _, some (.int (x_sum (fun l => am_bi (x_joins aa l j 1)) l)), some (.int (nI l))], []) h _) ?_ 0 (Nat.zero_le _)
          intro l hl ihl
          show am_wp _ (_, [_, _, _, _, _], _) _ _
          refine w_iload s144_124 rfl ?_
          refine w_aload_n s144_126 rfl ?_
          refine w_getf s144_127 (hw 0 _ rfl) rfl ?_
          refine w_icmpgeN (x := l) (y := cc 20) s144_130 rfl (by omega) (by omega)  (fun c130 => ?_) (fun c130 => ?_)
          · skip
            have e : l = cc 20 := by omega
            subst e
            refine w_iload_n s144_158 rfl ?_
            refine w_iret s144_159 rk144 ?_
            exact mq_end (by simp [S_mark, x_jl, *] <;> first | rfl | exact ⟨rfl, rfl⟩) hw fr
          · skip
            refine w_iload_n s144_133 rfl ?_
            refine w_aload_n s144_134 rfl ?_
            refine w_iload s144_135 rfl ?_
            refine w_iload_n s144_137 rfl ?_
            refine w_iconst (v := 1) s144_138 rfl ?_
            refine w_callV3r s144_139 (hw 0 _ rfl) ow143 mc144_143 rfl rfl (c143 hw n20 l j (by omega) (by omega) _) ?_
            refine w_ifeqB s144_142 rfl  (fun c142 => ?_) (fun c142 => ?_)
            · skip
              refine w_iconst (v := 0) s144_149 rfl ?_
              refine w_iadd s144_150 rfl ?_
              refine w_istore_n s144_151 rfl ?_
              show am_wp _ (_, [_, _, _, _, _], _) _ _
              refine w_iinc s144_152 rfl (nI_inc (l)) rfl ?_
              show am_wp _ (_, [_, _, _, _, _], _) _ _
              refine w_goto s144_155 rfl ?_
              refine am_wp_l (am_cons rfl (am_cons rfl (am_cons rfl (am_cons (am_si ?_) (am_cons rfl rfl))))) (ihl (by omega))
              all_goals first | (clear ihl; simp [x_sum_s, am_bi, *]; done) | (clear ihl; simp_all [x_sum_s, am_bi]; done)
            · skip
              refine w_iconst (v := 1) s144_145 rfl ?_
              refine w_goto s144_146 rfl ?_
              refine w_iadd s144_150 rfl ?_
              refine w_istore_n s144_151 rfl ?_
              show am_wp _ (_, [_, _, _, _, _], _) _ _
              refine w_iinc s144_152 rfl (nI_inc (l)) rfl ?_
              show am_wp _ (_, [_, _, _, _, _], _) _ _
              refine w_goto s144_155 rfl ?_
              refine am_wp_l (am_cons rfl (am_cons rfl (am_cons rfl (am_cons (am_si ?_) (am_cons rfl rfl))))) (ihl (by omega))
              all_goals first | (clear ihl; simp [x_sum_s, am_bi, *]; done) | (clear ihl; simp_all [x_sum_s, am_bi]; done)
        · skip
          obtain (rfl | rfl | rfl | rfl) : j41 = 1 ∨ j41 = 2 ∨ j41 = 3 ∨ j41 = 4 := by omega
          · skip
            have hj4 : k = 1 := hj3
            clear hj3
            subst hj4
            refine w_tswI (n := 0) s144_41 (by decide) rfl rfl rfl ?_
            refine w_aload_n s144_72 rfl ?_
            refine w_iload_n s144_73 rfl ?_
            refine w_callV1r s144_74 (hw 0 _ rfl) ow139 mc144_139 rfl rfl (c139 hw iv j (by omega)) ?_
            refine w_iret s144_77 rk144 ?_
            exact mq_end (by simp [S_mark, *] <;> first | rfl | exact ⟨rfl, rfl⟩ | exact ⟨rfl, rfl, rfl⟩) hw fr
          · skip
            have hj4 : k = 2 := hj3
            clear hj3
            subst hj4
            refine w_tswI (n := 1) s144_41 (by decide) rfl rfl rfl ?_
            refine w_iconst (v := 0) s144_78 rfl ?_
            refine w_istore s144_79 rfl ?_
            show am_wp _ (_, [_, _, _, _, _], _) _ _
            refine am_lp (n := cc 3) (P := fun q => am_wp 144 (81, [_, _, _, some (.int (x_sum (fun q => x_cn aa (nI j) (nI q) (cc 31)) q)), some (.int (nI q))], []) h _) ?_ 0 (Nat.zero_le _)
            intro q hq ihq
            show am_wp _ (_, [_, _, _, _, _], _) _ _
            refine w_iload s144_81 rfl ?_
            refine w_aload_n s144_83 rfl ?_
            refine w_getf s144_84 (hw 0 _ rfl) rfl ?_
            refine w_icmpgeN (x := q) (y := cc 3) s144_87 rfl (by omega) (by omega)  (fun c87 => ?_) (fun c87 => ?_)
            · skip
              have e : q = cc 3 := by omega
              subst e
              refine w_iload_n s144_106 rfl ?_
              refine w_iret s144_107 rk144 ?_
              exact mq_end (by simp [S_mark, x_ca, *] <;> first | rfl | exact ⟨rfl, rfl⟩) hw fr
            · skip
              refine w_iload_n s144_90 rfl ?_
              refine w_aload_n s144_91 rfl ?_
              refine w_iload_n s144_92 rfl ?_
              refine w_iload s144_93 rfl ?_
              refine w_callV2r s144_95 (hw 0 _ rfl) ow138 mc144_138 rfl rfl (c138 hw n31 _ _) ?_
              refine w_iadd s144_98 rfl ?_
              refine w_istore_n s144_99 rfl ?_
              show am_wp _ (_, [_, _, _, _, _], _) _ _
              refine w_iinc s144_100 rfl (nI_inc (q)) rfl ?_
              show am_wp _ (_, [_, _, _, _, _], _) _ _
              refine w_goto s144_103 rfl ?_
              exact ihq (by omega)
          · skip
            have hj4 : k = 3 := hj3
            clear hj3
            subst hj4
            refine w_tswI (n := 2) s144_41 (by decide) rfl rfl rfl ?_
            refine w_aload_n s144_108 rfl ?_
            refine w_iload_n s144_109 rfl ?_
            refine w_callV1r s144_110 (hw 0 _ rfl) ow142 mc144_142 rfl rfl (c142 hw iv j (by omega)) ?_
            refine w_iret s144_113 rk144 ?_
            exact mq_end (by simp [S_mark, *] <;> first | rfl | exact ⟨rfl, rfl⟩ | exact ⟨rfl, rfl, rfl⟩) hw fr
          · skip
            have hj4 : k = 4 := hj3
            clear hj3
            subst hj4
            refine w_tswI (n := 3) s144_41 (by decide) rfl rfl rfl ?_
            refine w_aload_n s144_114 rfl ?_
            refine w_getf s144_115 (hw 0 _ rfl) rfl ?_
            refine w_iload_n s144_118 rfl ?_
            refine w_ialdN (y := j) s144_119 (hw 19 _ rfl) (by omega) (by decide) ?_
            refine w_iret s144_120 rk144 ?_
            exact mq_end (by simp [S_mark, *] <;> first | rfl | exact ⟨rfl, rfl⟩ | exact ⟨rfl, rfl, rfl⟩) hw fr
      · skip
        refine w_aload_n s144_32 rfl ?_
        refine w_iconst (v := 3) s144_33 rfl ?_
        refine w_callV1 s144_34 (hw 0 _ rfl) ow104 mc144_104 rfl rfl (c104 hw 3 (by decide)) ?_
        rintro v h ⟨rfl, hw, fr2⟩
        replace fr := fr.tr fr2
        clear fr2
        show am_wp _ (_, _, Value.int (-3) :: _) _ _
        refine w_iret s144_37 rk144 ?_
        exact mq_end (by simp [S_mark, *] <;> first | rfl | exact ⟨rfl, rfl⟩ | exact ⟨rfl, rfl, rfl⟩) hw fr
    · skip
      refine w_iconst (v := (-1)) s144_17 rfl ?_
      refine w_iret s144_18 rk144 ?_
      exact mq_end (by simp [S_mark, *] <;> first | rfl | exact ⟨rfl, rfl⟩ | exact ⟨rfl, rfl, rfl⟩) hw fr
theorem c145 {h : am_H} {cc : Nat → Nat} {aa : Nat → Nat → Int32} (hw : MW h cc aa) (iv : IV cc aa) (n : Int32) : am_rd 145 [.ref 27, .int n] h (.int (x_feeA cc aa n)) := by
  have n0 := iv.n0
  have n2 := iv.n2
  have n3 := iv.n3
  have n7 := iv.n7
  have n8 := iv.n8
  have n16 := iv.n16
  have n20 := iv.n20
  have n28 := iv.n28
  have n31 := iv.n31
  have n38 := iv.n38
  have n45 := iv.n45
  show am_wp _ (_, [_, _], _) _ _
  refine w_aload_n s145_0 rfl ?_
  refine w_iload_n s145_1 rfl ?_
  refine w_callV1r s145_2 (hw 0 _ rfl) ow135 mc145_135 rfl rfl (c135 hw iv _) ?_
  refine w_ifeqB s145_5 rfl  (fun c5 => ?_) (fun c5 => ?_)
  · skip
    refine w_iconst (v := (-1)) s145_16 rfl ?_
    refine w_iret s145_17 rk145 ?_
    exact ⟨by simp [x_feeA, *], rfl⟩
  · skip
    obtain ⟨j, hj, rfl⟩ := x_ix_i c5
    have jcl := nI_clamp (show j < 2 ^ 31 by omega)
    refine w_aload_n s145_8 rfl ?_
    refine w_iload_n s145_9 rfl ?_
    refine w_callV1r s145_10 (hw 0 _ rfl) ow142 mc145_142 rfl rfl (c142 hw iv j (by omega)) ?_
    refine w_goto s145_13 rfl ?_
    refine w_iret s145_17 rk145 ?_
    exact ⟨by simp [x_feeA, *], rfl⟩
theorem c146 {h : am_H} {cc : Nat → Nat} {aa : Nat → Nat → Int32} (hw : MW h cc aa) (iv : IV cc aa) : am_ev 146 [.ref 27] h (mQ h (S_mean cc aa)) := by
  have fr := mFr.rf h
  have n0 := iv.n0
  have n2 := iv.n2
  have n3 := iv.n3
  have n7 := iv.n7
  have n8 := iv.n8
  have n16 := iv.n16
  have n20 := iv.n20
  have n28 := iv.n28
  have n31 := iv.n31
  have n38 := iv.n38
  have n45 := iv.n45
  show am_wp _ (_, [_, _, _, _], _) _ _
  refine w_iconst (v := 0) s146_0 rfl ?_
  refine w_istore_n s146_1 rfl ?_
  show am_wp _ (_, [_, _, _, _], _) _ _
  refine w_iconst (v := 0) s146_2 rfl ?_
  refine w_istore_n s146_3 rfl ?_
  show am_wp _ (_, [_, _, _, _], _) _ _
  refine w_iconst (v := 0) s146_4 rfl ?_
  refine w_istore_n s146_5 rfl ?_
  show am_wp _ (_, [_, _, _, _], _) _ _
  refine am_lp (n := cc 20) (P := fun k => am_wp 146 (6, [_, some (.int (x_mn aa k)), some (.int (x_ms aa k)), some (.int (nI k))], []) h _) ?_ 0 (Nat.zero_le _)
  intro k hk ihk
  show am_wp _ (_, [_, _, _, _], _) _ _
  refine w_iload_n s146_6 rfl ?_
  refine w_aload_n s146_7 rfl ?_
  refine w_getf s146_8 (hw 0 _ rfl) rfl ?_
  refine w_icmpgeN (x := k) (y := cc 20) s146_11 rfl (by omega) (by omega)  (fun c11 => ?_) (fun c11 => ?_)
  · skip
    have e : k = cc 20 := by omega
    subst e
    refine w_iload_n s146_58 rfl ?_
    refine w_ifne s146_59 rfl  (fun c59 => ?_) (fun c59 => ?_)
    · skip
      refine w_iload_n s146_70 rfl ?_
      refine w_iload_n s146_71 rfl ?_
      refine w_idiv s146_72 c59 rfl ?_
      refine w_iret s146_73 rk146 ?_
      exact mq_end (by simp [S_mean, *] <;> first | rfl | exact ⟨rfl, rfl⟩ | exact ⟨rfl, rfl, rfl⟩) hw fr
    · skip
      refine w_aload_n s146_62 rfl ?_
      refine w_iconst (v := 4) s146_63 rfl ?_
      refine w_callV1 s146_64 (hw 0 _ rfl) ow104 mc146_104 rfl rfl (c104 hw 4 (by decide)) ?_
      rintro v h ⟨rfl, hw, fr2⟩
      replace fr := fr.tr fr2
      clear fr2
      show am_wp _ (_, _, Value.int (-3) :: _) _ _
      refine w_goto s146_67 rfl ?_
      refine w_iret s146_73 rk146 ?_
      exact mq_end (by simp [S_mean, *] <;> first | rfl | exact ⟨rfl, rfl⟩ | exact ⟨rfl, rfl, rfl⟩) hw fr
  · skip
    refine w_iload_n s146_14 rfl ?_
    refine w_aload_n s146_15 rfl ?_
    refine w_getf s146_16 (hw 0 _ rfl) rfl ?_
    refine w_iload_n s146_19 rfl ?_
    refine w_baldN (y := k) s146_20 (hw 21 _ rfl) (Or.inr rfl) (by omega) (by decide) ?_
    refine w_ifeq s146_21 rfl  (fun c21 => ?_) (fun c21 => ?_)
    · skip
      refine w_iconst (v := 1) s146_28 rfl ?_
      refine w_iadd s146_29 rfl ?_
      refine w_istore_n s146_30 rfl ?_
      show am_wp _ (_, [_, _, _, _], _) _ _
      refine w_iload_n s146_31 rfl ?_
      refine w_aload_n s146_32 rfl ?_
      refine w_getf s146_33 (hw 0 _ rfl) rfl ?_
      refine w_iload_n s146_36 rfl ?_
      refine w_baldN (y := k) s146_37 (hw 21 _ rfl) (Or.inr rfl) (by omega) (by decide) ?_
      refine w_ifeq s146_38 rfl  (fun c38 => ?_) (fun c38 => ?_)
      · skip
        refine w_aload_n s146_45 rfl ?_
        refine w_iload_n s146_46 rfl ?_
        refine w_callV1r s146_47 (hw 0 _ rfl) ow142 mc146_142 rfl rfl (c142 hw iv k (by omega)) ?_
        refine w_iadd s146_50 rfl ?_
        refine w_istore_n s146_51 rfl ?_
        show am_wp _ (_, [_, _, _, _], _) _ _
        refine w_iinc s146_52 rfl (nI_inc (k)) rfl ?_
        show am_wp _ (_, [_, _, _, _], _) _ _
        refine w_goto s146_55 rfl ?_
        refine am_wp_l (am_cons rfl (am_cons (am_si ?_) (am_cons (am_si ?_) (am_cons rfl rfl)))) (ihk (by omega))
        all_goals first | (clear ihk; simp [x_mn_s, x_ms_s, *]; done) | (clear ihk; simp_all [x_mn_s, x_ms_s]; done)
      · skip
        refine w_iconst (v := 0) s146_41 rfl ?_
        refine w_goto s146_42 rfl ?_
        refine w_iadd s146_50 rfl ?_
        refine w_istore_n s146_51 rfl ?_
        show am_wp _ (_, [_, _, _, _], _) _ _
        refine w_iinc s146_52 rfl (nI_inc (k)) rfl ?_
        show am_wp _ (_, [_, _, _, _], _) _ _
        refine w_goto s146_55 rfl ?_
        refine am_wp_l (am_cons rfl (am_cons (am_si ?_) (am_cons (am_si ?_) (am_cons rfl rfl)))) (ihk (by omega))
        all_goals first | (clear ihk; simp [x_mn_s, x_ms_s, *]; done) | (clear ihk; simp_all [x_mn_s, x_ms_s]; done)
    · skip
      refine w_iconst (v := 0) s146_24 rfl ?_
      refine w_goto s146_25 rfl ?_
      refine w_iadd s146_29 rfl ?_
      refine w_istore_n s146_30 rfl ?_
      show am_wp _ (_, [_, _, _, _], _) _ _
      refine w_iload_n s146_31 rfl ?_
      refine w_aload_n s146_32 rfl ?_
      refine w_getf s146_33 (hw 0 _ rfl) rfl ?_
      refine w_iload_n s146_36 rfl ?_
      refine w_baldN (y := k) s146_37 (hw 21 _ rfl) (Or.inr rfl) (by omega) (by decide) ?_
      refine w_ifeq s146_38 rfl  (fun c38 => ?_) (fun c38 => ?_)
      · skip
        refine w_aload_n s146_45 rfl ?_
        refine w_iload_n s146_46 rfl ?_
        refine w_callV1r s146_47 (hw 0 _ rfl) ow142 mc146_142 rfl rfl (c142 hw iv k (by omega)) ?_
        refine w_iadd s146_50 rfl ?_
        refine w_istore_n s146_51 rfl ?_
        show am_wp _ (_, [_, _, _, _], _) _ _
        refine w_iinc s146_52 rfl (nI_inc (k)) rfl ?_
        show am_wp _ (_, [_, _, _, _], _) _ _
        refine w_goto s146_55 rfl ?_
        refine am_wp_l (am_cons rfl (am_cons (am_si ?_) (am_cons (am_si ?_) (am_cons rfl rfl)))) (ihk (by omega))
        all_goals first | (clear ihk; simp [x_mn_s, x_ms_s, *]; done) | (clear ihk; simp_all [x_mn_s, x_ms_s]; done)
      · skip
        refine w_iconst (v := 0) s146_41 rfl ?_
        refine w_goto s146_42 rfl ?_
        refine w_iadd s146_50 rfl ?_
        refine w_istore_n s146_51 rfl ?_
        show am_wp _ (_, [_, _, _, _], _) _ _
        refine w_iinc s146_52 rfl (nI_inc (k)) rfl ?_
        show am_wp _ (_, [_, _, _, _], _) _ _
        refine w_goto s146_55 rfl ?_
        refine am_wp_l (am_cons rfl (am_cons (am_si ?_) (am_cons (am_si ?_) (am_cons rfl rfl)))) (ihk (by omega))
        all_goals first | (clear ihk; simp [x_mn_s, x_ms_s, *]; done) | (clear ihk; simp_all [x_mn_s, x_ms_s]; done)
theorem c147 {h : am_H} {cc : Nat → Nat} {aa : Nat → Nat → Int32} (hw : MW h cc aa) (iv : IV cc aa) (n : Int32) : am_ev 147 [.ref 27, .int n] h (mQ h (S_back cc aa n)) := by
  have fr := mFr.rf h
  have n0 := iv.n0
  have n2 := iv.n2
  have n3 := iv.n3
  have n7 := iv.n7
  have n8 := iv.n8
  have n16 := iv.n16
  have n20 := iv.n20
  have n28 := iv.n28
  have n31 := iv.n31
  have n38 := iv.n38
  have n45 := iv.n45
  show am_wp _ (_, [_, _], _) _ _
  refine w_aload_n s147_0 rfl ?_
  refine w_iload_n s147_1 rfl ?_
  refine w_callV1r s147_2 (hw 0 _ rfl) ow135 mc147_135 rfl rfl (c135 hw iv _) ?_
  refine w_ifneB s147_5 rfl  (fun c5 => ?_) (fun c5 => ?_)
  · skip
    obtain ⟨j, hj, rfl⟩ := x_ix_i c5
    have jcl := nI_clamp (show j < 2 ^ 31 by omega)
    refine w_aload_n s147_10 rfl ?_
    refine w_getf s147_11 (hw 0 _ rfl) rfl ?_
    refine w_iload_n s147_14 rfl ?_
    refine w_baldN (y := j) s147_15 (hw 21 _ rfl) (Or.inr rfl) (by omega) (by decide) ?_
    refine w_ifne s147_16 rfl  (fun c16 => ?_) (fun c16 => ?_)
    · skip
      refine w_bipush (v := (-4)) s147_27 rfl ?_
      refine w_iret s147_29 rk147 ?_
      exact mq_end (by simp [S_back, *] <;> first | rfl | exact ⟨rfl, rfl⟩ | exact ⟨rfl, rfl, rfl⟩) hw fr
    · skip
      refine w_aload_n s147_19 rfl ?_
      refine w_iload_n s147_20 rfl ?_
      refine w_callV1r s147_21 (hw 0 _ rfl) ow139 mc147_139 rfl rfl (c139 hw iv j (by omega)) ?_
      refine w_ifne s147_24 rfl  (fun c24 => ?_) (fun c24 => ?_)
      · skip
        refine w_aload_n s147_30 rfl ?_
        refine w_getf s147_31 (hw 0 _ rfl) rfl ?_
        refine w_iload_n s147_34 rfl ?_
        refine w_iconst (v := 1) s147_35 rfl ?_
        refine m_st27 (y := j) s147_36 hw fr (by omega) (fun h hw fr => ?_)
        refine w_iconst (v := 1) s147_37 rfl ?_
        refine w_iret s147_38 rk147 ?_
        exact mq_end (by simp [S_back, *] <;> first | rfl | exact ⟨rfl, rfl⟩ | exact ⟨rfl, rfl, rfl⟩) hw fr
      · skip
        refine w_bipush (v := (-4)) s147_27 rfl ?_
        refine w_iret s147_29 rk147 ?_
        exact mq_end (by simp [S_back, *] <;> first | rfl | exact ⟨rfl, rfl⟩ | exact ⟨rfl, rfl, rfl⟩) hw fr
  · skip
    refine w_iconst (v := (-1)) s147_8 rfl ?_
    refine w_iret s147_9 rk147 ?_
    exact mq_end (by simp [S_back, *] <;> first | rfl | exact ⟨rfl, rfl⟩ | exact ⟨rfl, rfl, rfl⟩) hw fr
theorem c149 {h : am_H} {cc : Nat → Nat} {aa : Nat → Nat → Int32} (hw : MW h cc aa) (iv : IV cc aa) (q : Int32) : am_ev 149 [.ref 27, .int q] h (mQ h (S_crier cc aa q)) := by
  have fr := mFr.rf h
  have n0 := iv.n0
  have n2 := iv.n2
  have n3 := iv.n3
  have n7 := iv.n7
  have n8 := iv.n8
  have n16 := iv.n16
  have n20 := iv.n20
  have n28 := iv.n28
  have n31 := iv.n31
  have n38 := iv.n38
  have n45 := iv.n45
  show am_wp _ (_, [_, _], _) _ _
  refine w_aload_n s149_0 rfl ?_
  refine w_iload_n s149_1 rfl ?_
  refine w_callV1r s149_2 (hw 0 _ rfl) ow107 mc149_107 rfl rfl (c107 hw iv _) ?_
  refine w_ifneB s149_5 rfl  (fun c5 => ?_) (fun c5 => ?_)
  · skip
    refine w_aload_n s149_10 rfl ?_
    refine w_getf s149_11 (hw 0 _ rfl) rfl ?_
    refine w_bipush (v := 6) s149_14 rfl ?_
    refine w_icmpneN (x := cc 28) (y := 6) s149_16 rfl (by omega) (by omega)  (fun c16 => ?_) (fun c16 => ?_)
    · skip
      refine w_aload_n s149_22 rfl ?_
      refine w_getf s149_23 (hw 0 _ rfl) rfl ?_
      refine w_aload_n s149_26 rfl ?_
      refine w_getf s149_27 (hw 0 _ rfl) rfl ?_
      refine w_iload_n s149_30 rfl ?_
      refine m_st29 (y := cc 28) s149_31 hw fr (by omega) (fun h hw fr => ?_)
      refine w_aload_n s149_32 rfl ?_
      refine w_dup_r s149_33 ?_
      refine w_getf s149_34 (hw 0 _ rfl) rfl ?_
      refine w_iconst (v := 1) s149_37 rfl ?_
      refine w_iaddN (x := cc 28) (y := 1) s149_38 ?_
      refine m_pf28 (v := (cc 28 + 1)) s149_39 hw fr (fun h hw fr => ?_)
      refine w_aload_n s149_42 rfl ?_
      refine w_getf s149_43 (hw 0 _ rfl) rfl ?_
      refine w_iconst (v := 1) s149_46 rfl ?_
      refine w_isub s149_47 (nI_pred (cc 28)) ?_
      refine w_iret s149_48 rk149 ?_
      exact mq_end (by simp [S_crier, *] <;> first | rfl | exact ⟨rfl, rfl⟩ | exact ⟨rfl, rfl, rfl⟩) hw fr
    · skip
      refine w_bipush (v := (-2)) s149_19 rfl ?_
      refine w_iret s149_21 rk149 ?_
      exact mq_end (by simp [S_crier, *] <;> first | rfl | exact ⟨rfl, rfl⟩ | exact ⟨rfl, rfl, rfl⟩) hw fr
  · skip
    refine w_iconst (v := (-1)) s149_8 rfl ?_
    refine w_iret s149_9 rk149 ?_
    exact mq_end (by simp [S_crier, *] <;> first | rfl | exact ⟨rfl, rfl⟩ | exact ⟨rfl, rfl, rfl⟩) hw fr
