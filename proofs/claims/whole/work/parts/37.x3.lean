/-! the class's notices, cries, stays -/
theorem x_ld_wd {cc : Nat → Nat} {aa : Nat → Nat → Int32} (iv : IV cc aa) (j : Nat) (q : Int32) : ∀ n, n ≤ cc 31 → decide (x_ld aa (nI j) q n = nI (cc 2)) = x_wd cc aa j q n
  | 0, _ => by
    have n2 := iv.n2
    apply decide_eq_false
    intro e
    have h1 := congrArg Int32.toInt e
    rw [nI_toInt (by omega)] at h1
    rw [show (x_ld aa (nI j) q 0).toInt = -9 from rfl] at h1
    omega
  | n + 1, hn => by
    have ih := x_ld_wd iv j q n (by omega)
    show decide (x_ldf aa (nI j) q n (x_ld aa (nI j) q n) = nI (cc 2)) = (x_wd cc aa j q n || (x_cf aa (nI j) q n && decide (aa 35 n = nI (cc 2))))
    unfold x_ldf
    by_cases c : x_cf aa (nI j) q n = true
    · rw [if_pos c, c, Bool.true_and]
      by_cases e : aa 35 n = nI (cc 2)
      · rw [decide_eq_true e, Bool.or_true]
      · rw [decide_eq_false e, Bool.or_false]
        cases f : x_wd cc aa j q n with
        | false => rfl
        | true =>
          obtain ⟨i, i1, i2, -⟩ := x_any_i f
          rw [Bool.and_eq_true] at i2
          have h1 := iv.yo i n (by omega) (by omega)
          obtain ⟨d, d1, d2⟩ := iv.yd n (by omega)
          have n2 := iv.n2
          rw [of_decide_eq_true i2.2, d2, nI_leI (by omega) (by omega)] at h1
          exact absurd (d2.trans (by rw [show d = cc 2 by omega])) e
    · rw [if_neg c, ih]
      rw [Bool.not_eq_true] at c
      rw [c, Bool.false_and, Bool.or_false]
theorem x_sum_z {f : Nat → Int32} {n : Nat} (h : ∀ q, n ≤ q → q < 10 → f q = 0) : ∀ m, n ≤ m → m ≤ 10 → x_sum f m = x_sum f n
  | 0, h1, _ => by rw [show n = 0 by omega]
  | m + 1, h1, h2 => by
    by_cases e : n = m + 1
    · rw [e]
    · rw [x_sum_s, x_sum_z h m (by omega) (by omega), h m (by omega) (by omega), Int32.add_zero]
theorem x_lk_z {cc : Nat → Nat} {aa : Nat → Nat → Int32} (iv : IV cc aa) {j : Nat} (hj : j < cc 20) : x_sum (fun q => am_bi (x_lk1 cc aa j q)) 10 = x_lacks cc aa j := by
  have n3 := iv.n3
  refine x_sum_z (fun q h1 h2 => ?_) 10 n3 (Nat.le_refl _)
  obtain ⟨w, hw, ew⟩ := iv.wh j hj
  have h10 := Nat.pow_le_pow_right (n := 2) (by decide) n3
  have h11 := Nat.pow_le_pow_right (n := 2) (by decide) h1
  show am_bi (x_has (aa 23 j) (nI q) && _) = 0
  rw [ew, x_hasN (by omega) (by omega), Nat.testBit_lt_two_pow (by omega)]
  rfl
theorem x_cn_z {cc : Nat → Nat} {aa : Nat → Nat → Int32} (iv : IV cc aa) (n : Int32) {q : Nat} (h1 : cc 3 ≤ q) (h2 : q < 2 ^ 31) : ∀ m, m ≤ cc 31 → x_cn aa n (nI q) m = 0
  | 0, _ => rfl
  | m + 1, hm => by
    have ih := x_cn_z iv n h1 h2 m (by omega)
    show x_cn aa n (nI q) m + am_bi (x_cf aa n (nI q) m) = 0
    rw [ih]
    have h3 := iv.ys m (by omega)
    have : x_cf aa n (nI q) m = false := by
      unfold x_cf
      by_cases e : aa 34 m = nI q
      · rw [e, x_ix_o h1 h2] at h3
        cases h3
      · rw [decide_eq_false e, Bool.and_false]
    rw [this]
    rfl
theorem x_ca_z {cc : Nat → Nat} {aa : Nat → Nat → Int32} (iv : IV cc aa) (j : Nat) : x_sum (fun q => x_cn aa (nI j) (nI q) (cc 31)) 10 = x_ca cc aa j := x_sum_z (fun q h1 h2 => x_cn_z iv _ h1 (by omega) _ (Nat.le_refl _)) 10 iv.n3 (Nat.le_refl _)
theorem x_cnr_n {cc : Nat → Nat} {aa : Nat → Nat → Int32} {j q : Nat} (hq : q < 10) : x_cnr cc aa j q = x_cn aa (nI j) (nI q) (cc 31) := if_pos hq
theorem x_ldr_n {cc : Nat → Nat} {aa : Nat → Nat → Int32} {j q : Nat} (hq : q < 10) : x_ldr cc aa j q = x_ld aa (nI j) (nI q) (cc 31) := if_pos hq
theorem x_w0_lk (cc : Nat → Nat) (aa : Nat → Nat → Int32) (j q : Nat) : x_w0 cc aa j (nI q) = (x_lk1 cc aa j q && decide (aa 27 j = 0)) := by
  unfold x_w0 x_lk1
  rw [Bool.and_assoc, Bool.and_assoc, Bool.and_comm (decide (aa 27 j = 0))]
theorem x_01 {v : Int32} (h : v = 0 ∨ v = 1) (c : ¬ v = 0) : v = 1 := h.resolve_left c
theorem c94 {h0 h : am_H} {a b : Nat} {cc : Nat → Nat} {aa : Nat → Nat → Int32} {P : x_P} {D : x_D} (hx : XL h0 a b h cc aa P D) (iv : IV cc aa) (j : Nat) (hj : j < cc 20) : am_rd 94 [.ref 3, .ref (P 2 j)] h (.int (x_fee aa j)) := by
  have n0 := iv.n0
  have n2 := iv.n2
  have n3 := iv.n3
  have n7 := iv.n7
  have n8 := iv.n8
  have n16 := iv.n16
  have n20 := iv.n20
  have n28 := iv.n28
  have n31 := iv.n31
  have n38 := iv.n38
  have n45 := iv.n45
  obtain ⟨k, hk, ek⟩ := iv.ki j hj
  obtain ⟨w, hw, ew⟩ := iv.wh j hj
  have h10 := Nat.pow_le_pow_right (n := 2) (by decide) n3
  show am_wp _ (_, [_, _], _) _ _
  refine w_aload_n s94_0 rfl ?_
  refine w_getf s94_1 (hx.no (j) (by omega)) rfl ?_
  refine w_aload_n s94_4 rfl ?_
  refine w_getf s94_5 hx.o rfl ?_
  refine w_aload_n s94_8 rfl ?_
  refine w_getf s94_9 (hx.no (j) (by omega)) rfl ?_
  refine w_iald (v := aa 19 (tn (aa 21 j))) s94_12 hx.ra (by rw [ek]; exact am_inb hk (by decide)) rfl ?_
  refine w_imul s94_13 rfl ?_
  refine w_aload_n s94_14 rfl ?_
  refine w_getf s94_15 (hx.no (j) (by omega)) rfl ?_
  refine w_callS1r s94_18 mc94_175 rfl rfl (c175 _ _) ?_
  rw [show x_bc (aa 23 j) = x_bits (aa 23 j) by rw [ew]; exact x_bcb (by omega)]
  refine w_imul s94_21 rfl ?_
  refine w_aload_n s94_22 rfl ?_
  refine w_getf s94_23 (hx.no (j) (by omega)) rfl ?_
  refine w_imul s94_26 rfl ?_
  refine w_iret s94_27 rk94 ?_
  exact ⟨rfl, rfl⟩
theorem c95 {h0 h : am_H} {a b : Nat} {cc : Nat → Nat} {aa : Nat → Nat → Int32} {P : x_P} {D : x_D} (hx : XL h0 a b h cc aa P D) (iv : IV cc aa) (c q : Nat) (hc : c < cc 28) (hq : q < cc 3) : am_rd 95 [.ref 3, .ref (P 3 c), .int (nI q)] h (.int (x_ready aa c (nI q))) := by
  have n0 := iv.n0
  have n2 := iv.n2
  have n3 := iv.n3
  have n7 := iv.n7
  have n8 := iv.n8
  have n16 := iv.n16
  have n20 := iv.n20
  have n28 := iv.n28
  have n31 := iv.n31
  have n38 := iv.n38
  have n45 := iv.n45
  obtain ⟨s, hs, es⟩ := x_ix_i (iv.cr c hc)
  show am_wp _ (_, [_, _, _], _) _ _
  refine w_aload_n s95_0 rfl ?_
  refine w_getf s95_1 (hx.cr (c) (by omega)) rfl ?_
  refine w_aload_n s95_4 rfl ?_
  refine w_aload_n s95_5 rfl ?_
  refine w_getf s95_6 (hx.cr (c) (by omega)) rfl ?_
  rw [es]
  refine w_iload_n s95_9 rfl ?_
  refine w_callV2r s95_10 hx.o ow90 mc95_90 rfl rfl (c90 hx iv (s) (q) (by omega) (by omega)) ?_
  refine w_iadd s95_13 rfl ?_
  refine w_iret s95_14 rk95 ?_
  exact ⟨by unfold x_ready; rw [es], rfl⟩
theorem c96 {h0 h : am_H} {a b : Nat} {cc : Nat → Nat} {aa : Nat → Nat → Int32} {P : x_P} {D : x_D} (hx : XL h0 a b h cc aa P D) (iv : IV cc aa) (c : Int32) (q m : Nat) (hq : q < cc 3) (hm : m < 1440) : am_rd 96 [.ref 3, .int c, .int (nI q), .int (nI m)] h (.int (am_bi (x_near cc aa c (nI q) (nI m)))) := by
  have n0 := iv.n0
  have n2 := iv.n2
  have n3 := iv.n3
  have n7 := iv.n7
  have n8 := iv.n8
  have n16 := iv.n16
  have n20 := iv.n20
  have n28 := iv.n28
  have n31 := iv.n31
  have n38 := iv.n38
  have n45 := iv.n45
  show am_wp _ (_, [_, _, _, _, _, _], _) _ _
  refine w_iconst (v := 0) s96_0 rfl ?_
  refine w_istore s96_1 rfl ?_
  show am_wp _ (_, [_, _, _, _, _, _], _) _ _
  refine am_lp (n := cc 31) (P := fun i => x_any (x_nf cc aa c (nI q) (nI m)) i = false → ∀ v5 : Option Value, am_wp 96 (3, [_, _, _, _, some (.int (nI i)), v5], []) h _) ?_ 0 (Nat.zero_le _) rfl _
  intro i hi ihi hA v5
  show am_wp _ (_, [_, _, _, _, _, _], _) _ _
  refine w_iload s96_3 rfl ?_
  refine w_aload_n s96_5 rfl ?_
  refine w_getf s96_6 hx.o rfl ?_
  refine w_callV0r s96_9 (hx.l 4 (by decide)) ow181 mc96_181 rfl rfl (hx.size 4 (by decide)) ?_
  refine w_icmpgeN (x := i) (y := cc 31) s96_12 rfl (by omega) (by omega)  (fun c12 => ?_) (fun c12 => ?_)
  · skip
    have e : i = cc 31 := by omega
    subst e
    refine w_iconst (v := 0) s96_85 rfl ?_
    refine w_zret0 s96_86 rk96 ?_
    exact ⟨am_zo hA, rfl⟩
  · skip
    obtain ⟨m1, hm1, em1⟩ := iv.ym i c12
    obtain ⟨q1, hq1, eq1⟩ := x_ix_i (iv.ys i c12)
    refine w_aload_n s96_15 rfl ?_
    refine w_getf s96_16 hx.o rfl ?_
    refine w_iload s96_19 rfl ?_
    refine w_callV1r s96_21 (hx.l 4 (by decide)) ow184 mc96_184 rfl rfl (hx.get 4 (by decide) (i) (show (i) < cc 31 by omega)) ?_
    refine w_cast s96_24 (hx.cy (i) (by omega)) ?_
    refine w_astore s96_27 rfl ?_
    show am_wp _ (_, [_, _, _, _, _, _], _) _ _
    refine w_aload s96_29 rfl ?_
    refine w_getf s96_31 (hx.cy (i) (by omega)) rfl ?_
    refine w_aload_n s96_34 rfl ?_
    refine w_getf s96_35 hx.o rfl ?_
    refine w_icmpne s96_38 rfl  (fun c38 => ?_) (fun c38 => ?_)
    · skip
      refine w_iinc s96_79 rfl (nI_inc (i)) rfl ?_
      show am_wp _ (_, [_, _, _, _, _, _], _) _ _
      refine w_goto s96_82 rfl ?_
      refine ihi (by omega) ?_ _
      rw [x_any_s, hA]
      first | (clear ihi; simp [x_nf, *]; done) | (clear ihi; simp_all [x_nf]; done)
    · skip
      refine w_aload s96_41 rfl ?_
      refine w_getf s96_43 (hx.cy (i) (by omega)) rfl ?_
      refine w_iload_n s96_46 rfl ?_
      refine w_icmpeq s96_47 rfl  (fun c47 => ?_) (fun c47 => ?_)
      · skip
        refine w_iinc s96_79 rfl (nI_inc (i)) rfl ?_
        show am_wp _ (_, [_, _, _, _, _, _], _) _ _
        refine w_goto s96_82 rfl ?_
        refine ihi (by omega) ?_ _
        rw [x_any_s, hA]
        first | (clear ihi; simp [x_nf, *]; done) | (clear ihi; simp_all [x_nf]; done)
      · skip
        refine w_aload s96_50 rfl ?_
        refine w_getf s96_52 (hx.cy (i) (by omega)) rfl ?_
        refine w_iload_n s96_55 rfl ?_
        refine w_isub s96_56 rfl ?_
        refine w_abs (v := x_ad (aa 36 i) (nI m)) s96_57 ro96 rfl (by rw [em1]; exact x_abs (by omega) (by omega)) ?_
        refine w_iconst (v := 5) s96_60 rfl ?_
        refine w_icmpge s96_61 rfl  (fun c61 => ?_) (fun c61 => ?_)
        · skip
          refine w_iinc s96_79 rfl (nI_inc (i)) rfl ?_
          show am_wp _ (_, [_, _, _, _, _, _], _) _ _
          refine w_goto s96_82 rfl ?_
          refine ihi (by omega) ?_ _
          rw [x_any_s, hA]
          first | (clear ihi; simp [x_nf, *]; done) | (clear ihi; simp_all [x_nf]; done)
        · skip
          refine w_aload_n s96_64 rfl ?_
          refine w_aload s96_65 rfl ?_
          refine w_getf s96_67 (hx.cy (i) (by omega)) rfl ?_
          rw [eq1]
          refine w_iload_n s96_70 rfl ?_
          refine w_callV2r s96_71 hx.o ow91 mc96_91 rfl rfl (c91 hx iv (q1) (q) (by omega) (by omega)) ?_
          refine w_ifeqB s96_74 rfl  (fun c74 => ?_) (fun c74 => ?_)
          · skip
            refine w_iinc s96_79 rfl (nI_inc (i)) rfl ?_
            show am_wp _ (_, [_, _, _, _, _, _], _) _ _
            refine w_goto s96_82 rfl ?_
            refine ihi (by omega) ?_ _
            rw [x_any_s, hA]
            first | (clear ihi; simp [x_nf, *]; done) | (clear ihi; simp_all [x_nf]; done)
          · skip
            refine w_iconst (v := 1) s96_77 rfl ?_
            refine w_zret1 s96_78 rk96 ?_
            exact ⟨am_zz (x_any_t (i := i) (by first | (simp [x_nf, *]; done) | (simp_all [x_nf]; done)) _ (by omega)), rfl⟩
theorem c11 {h0 h : am_H} {a b : Nat} {cc : Nat → Nat} {aa : Nat → Nat → Int32} {P : x_P} {D : x_D} (hx : XL h0 a b h cc aa P D) (iv : IV cc aa) (j : Nat) (hj : j < cc 20) (q : Nat) (hq : q < 10) : am_rd 11 [.ref (P 2 j), .int (nI q)] h (.int (am_bi (x_lk1 cc aa j q))) := by
  have n0 := iv.n0
  have n2 := iv.n2
  have n3 := iv.n3
  have n7 := iv.n7
  have n8 := iv.n8
  have n16 := iv.n16
  have n20 := iv.n20
  have n28 := iv.n28
  have n31 := iv.n31
  have n38 := iv.n38
  have n45 := iv.n45
  show am_wp _ (_, [_, _], _) _ _
  refine w_aload_n s11_0 rfl ?_
  refine w_getf s11_1 (hx.no (j) (by omega)) rfl ?_
  refine w_iload_n s11_4 rfl ?_
  refine w_ishr s11_5 rfl ?_
  refine w_iconst (v := 1) s11_6 rfl ?_
  refine w_iand s11_7 rfl ?_
  refine w_iconst (v := 1) s11_8 rfl ?_
  refine w_icmpne s11_9 rfl  (fun c9 => ?_) (fun c9 => ?_)
  · skip
    refine w_iconst (v := 0) s11_29 rfl ?_
    refine w_zret0 s11_30 rk11 ?_
    first | exact ⟨am_zz (by unfold x_lk1; rw [show x_has (aa 23 j) (nI q) = true from decide_eq_true (by assumption), decide_eq_true (by assumption)]; rfl), rfl⟩ | exact ⟨am_zo (by unfold x_lk1; rw [show x_has (aa 23 j) (nI q) = false from decide_eq_false (by assumption)]; rfl), rfl⟩ | exact ⟨am_zo (by unfold x_lk1; rw [decide_eq_false (by assumption), Bool.and_false]), rfl⟩
  · skip
    refine w_aload_n s11_12 rfl ?_
    refine w_getf s11_13 (hx.no (j) (by omega)) rfl ?_
    refine w_iload_n s11_16 rfl ?_
    refine w_ialdV (y := q) (v := x_cn aa (nI j) (nI q) (cc 31)) s11_17 (hx.ct (j) (by omega)) (by omega) (by decide) (x_cnr_n hq) ?_
    refine w_aload_n s11_18 rfl ?_
    refine w_getf s11_19 (hx.no (j) (by omega)) rfl ?_
    refine w_icmpge s11_22 rfl  (fun c22 => ?_) (fun c22 => ?_)
    · skip
      replace c22 := Int32.not_lt.mpr c22
      refine w_iconst (v := 0) s11_29 rfl ?_
      refine w_zret0 s11_30 rk11 ?_
      first | exact ⟨am_zz (by unfold x_lk1; rw [show x_has (aa 23 j) (nI q) = true from decide_eq_true (by assumption), decide_eq_true (by assumption)]; rfl), rfl⟩ | exact ⟨am_zo (by unfold x_lk1; rw [show x_has (aa 23 j) (nI q) = false from decide_eq_false (by assumption)]; rfl), rfl⟩ | exact ⟨am_zo (by unfold x_lk1; rw [decide_eq_false (by assumption), Bool.and_false]), rfl⟩
    · skip
      replace c22 := Int32.not_le.mp c22
      refine w_iconst (v := 1) s11_25 rfl ?_
      refine w_goto s11_26 rfl ?_
      refine w_zret1 s11_30 rk11 ?_
      first | exact ⟨am_zz (by unfold x_lk1; rw [show x_has (aa 23 j) (nI q) = true from decide_eq_true (by assumption), decide_eq_true (by assumption)]; rfl), rfl⟩ | exact ⟨am_zo (by unfold x_lk1; rw [show x_has (aa 23 j) (nI q) = false from decide_eq_false (by assumption)]; rfl), rfl⟩ | exact ⟨am_zo (by unfold x_lk1; rw [decide_eq_false (by assumption), Bool.and_false]), rfl⟩
theorem c12 {h0 h : am_H} {a b : Nat} {cc : Nat → Nat} {aa : Nat → Nat → Int32} {P : x_P} {D : x_D} (hx : XL h0 a b h cc aa P D) (iv : IV cc aa) (j : Nat) (hj : j < cc 20) : am_rd 12 [.ref (P 2 j)] h (.int (x_lacks cc aa j)) := by
  have n0 := iv.n0
  have n2 := iv.n2
  have n3 := iv.n3
  have n7 := iv.n7
  have n8 := iv.n8
  have n16 := iv.n16
  have n20 := iv.n20
  have n28 := iv.n28
  have n31 := iv.n31
  have n38 := iv.n38
  have n45 := iv.n45
  show am_wp _ (_, [_, _, _], _) _ _
  refine w_iconst (v := 0) s12_0 rfl ?_
  refine w_istore_n s12_1 rfl ?_
  show am_wp _ (_, [_, _, _], _) _ _
  refine w_iconst (v := 0) s12_2 rfl ?_
  refine w_istore_n s12_3 rfl ?_
  show am_wp _ (_, [_, _, _], _) _ _
  refine am_lp (n := 10) (P := fun q => am_wp 12 (4, [_, some (.int (x_sum (fun q => am_bi (x_lk1 cc aa j q)) q)), some (.int (nI q))], []) h _) ?_ 0 (Nat.zero_le _)
  intro q hq ihq
  show am_wp _ (_, [_, _, _], _) _ _
  refine w_iload_n s12_4 rfl ?_
  refine w_bipush (v := 10) s12_5 rfl ?_
  refine w_icmpgeN (x := q) (y := 10) s12_7 rfl (by omega) (by omega)  (fun c7 => ?_) (fun c7 => ?_)
  · skip
    refine w_iload_n s12_27 rfl ?_
    refine w_iret s12_28 rk12 ?_
    have e : q = 10 := by omega
    subst e
    exact ⟨by rw [x_lk_z iv hj], rfl⟩
  · skip
    refine w_aload_n s12_10 rfl ?_
    refine w_iload_n s12_11 rfl ?_
    refine w_callV1r s12_12 (hx.no (j) (by omega)) ow11 mc12_11 rfl rfl (c11 hx iv (j) (by omega) (q) (by omega)) ?_
    refine w_ifeqB s12_15 rfl  (fun c15 => ?_) (fun c15 => ?_)
    · skip
      refine w_iinc s12_21 rfl (nI_inc (q)) rfl ?_
      show am_wp _ (_, [_, _, _], _) _ _
      refine w_goto s12_24 rfl ?_
      refine am_wp_l (am_cons rfl (am_cons (am_si ?_) (am_cons rfl rfl))) (ihq (by omega))
      all_goals first | (clear ihq; simp [x_sum_s, am_bi, *]; done) | (clear ihq; simp_all [x_sum_s, am_bi]; done)
    · skip
      refine w_iinc s12_18 rfl rfl rfl ?_
      show am_wp _ (_, [_, _, _], _) _ _
      refine w_iinc s12_21 rfl (nI_inc (q)) rfl ?_
      show am_wp _ (_, [_, _, _], _) _ _
      refine w_goto s12_24 rfl ?_
      refine am_wp_l (am_cons rfl (am_cons (am_si ?_) (am_cons rfl rfl))) (ihq (by omega))
      all_goals first | (clear ihq; simp [x_sum_s, am_bi, *]; done) | (clear ihq; simp_all [x_sum_s, am_bi]; done)
theorem c13 {h0 h : am_H} {a b : Nat} {cc : Nat → Nat} {aa : Nat → Nat → Int32} {P : x_P} {D : x_D} (hx : XL h0 a b h cc aa P D) (iv : IV cc aa) (j : Nat) (hj : j < cc 20) : am_rd 13 [.ref (P 2 j)] h (.int (am_bi (decide (x_lacks cc aa j = 0)))) := by
  have n0 := iv.n0
  have n2 := iv.n2
  have n3 := iv.n3
  have n7 := iv.n7
  have n8 := iv.n8
  have n16 := iv.n16
  have n20 := iv.n20
  have n28 := iv.n28
  have n31 := iv.n31
  have n38 := iv.n38
  have n45 := iv.n45
  show am_wp _ (_, [_], _) _ _
  refine w_aload_n s13_0 rfl ?_
  refine w_callV0r s13_1 (hx.no (j) (by omega)) ow12 mc13_12 rfl rfl (c12 hx iv (j) (by omega)) ?_
  refine w_ifne s13_4 rfl  (fun c4 => ?_) (fun c4 => ?_)
  · skip
    refine w_iconst (v := 0) s13_11 rfl ?_
    refine w_zret0 s13_12 rk13 ?_
    first | exact ⟨am_zz (decide_eq_true (by assumption)), rfl⟩ | exact ⟨am_zo (decide_eq_false (by assumption)), rfl⟩
  · skip
    refine w_iconst (v := 1) s13_7 rfl ?_
    refine w_goto s13_8 rfl ?_
    refine w_zret1 s13_12 rk13 ?_
    first | exact ⟨am_zz (decide_eq_true (by assumption)), rfl⟩ | exact ⟨am_zo (decide_eq_false (by assumption)), rfl⟩
theorem c14 {h0 h : am_H} {a b : Nat} {cc : Nat → Nat} {aa : Nat → Nat → Int32} {P : x_P} {D : x_D} (hx : XL h0 a b h cc aa P D) (iv : IV cc aa) (j : Nat) (hj : j < cc 20) : am_rd 14 [.ref (P 2 j)] h (.int (x_ca cc aa j)) := by
  have n0 := iv.n0
  have n2 := iv.n2
  have n3 := iv.n3
  have n7 := iv.n7
  have n8 := iv.n8
  have n16 := iv.n16
  have n20 := iv.n20
  have n28 := iv.n28
  have n31 := iv.n31
  have n38 := iv.n38
  have n45 := iv.n45
  show am_wp _ (_, [_, _, _], _) _ _
  refine w_iconst (v := 0) s14_0 rfl ?_
  refine w_istore_n s14_1 rfl ?_
  show am_wp _ (_, [_, _, _], _) _ _
  refine w_iconst (v := 0) s14_2 rfl ?_
  refine w_istore_n s14_3 rfl ?_
  show am_wp _ (_, [_, _, _], _) _ _
  refine am_lp (n := 10) (P := fun q => am_wp 14 (4, [_, some (.int (x_sum (fun q => x_cn aa (nI j) (nI q) (cc 31)) q)), some (.int (nI q))], []) h _) ?_ 0 (Nat.zero_le _)
  intro q hq ihq
  show am_wp _ (_, [_, _, _], _) _ _
  refine w_iload_n s14_4 rfl ?_
  refine w_bipush (v := 10) s14_5 rfl ?_
  refine w_icmpgeN (x := q) (y := 10) s14_7 rfl (by omega) (by omega)  (fun c7 => ?_) (fun c7 => ?_)
  · skip
    refine w_iload_n s14_25 rfl ?_
    refine w_iret s14_26 rk14 ?_
    have e : q = 10 := by omega
    subst e
    exact ⟨by rw [x_ca_z iv j], rfl⟩
  · skip
    refine w_iload_n s14_10 rfl ?_
    refine w_aload_n s14_11 rfl ?_
    refine w_getf s14_12 (hx.no (j) (by omega)) rfl ?_
    refine w_iload_n s14_15 rfl ?_
    refine w_ialdV (y := q) (v := x_cn aa (nI j) (nI q) (cc 31)) s14_16 (hx.ct (j) (by omega)) (by omega) (by decide) (x_cnr_n (by omega)) ?_
    refine w_iadd s14_17 rfl ?_
    refine w_istore_n s14_18 rfl ?_
    show am_wp _ (_, [_, _, _], _) _ _
    refine w_iinc s14_19 rfl (nI_inc (q)) rfl ?_
    show am_wp _ (_, [_, _, _], _) _ _
    refine w_goto s14_22 rfl ?_
    refine am_wp_l (am_cons rfl (am_cons (am_si ?_) (am_cons rfl rfl))) (ihq (by omega))
    all_goals first | (clear ihq; simp [x_sum_s, *]; done) | (clear ihq; simp_all [x_sum_s]; done)
theorem c15 {h0 h : am_H} {a b : Nat} {cc : Nat → Nat} {aa : Nat → Nat → Int32} {P : x_P} {D : x_D} (hx : XL h0 a b h cc aa P D) (j : Nat) (hj : j < cc 20) : am_rd 15 [.ref (P 2 j)] h (.int ((aa 22 j + 9) / 10)) := by
  show am_wp _ (_, [_], _) _ _
  refine w_aload_n s15_0 rfl ?_
  refine w_getf s15_1 (hx.no (j) (by omega)) rfl ?_
  refine w_bipush (v := 10) s15_4 rfl ?_
  refine w_iadd s15_6 rfl ?_
  refine w_iconst (v := 1) s15_7 rfl ?_
  refine w_isub (v := aa 22 j + 9) s15_8 (by rw [Int32.sub_eq_add_neg, Int32.add_assoc]; rfl) ?_
  refine w_bipush (v := 10) s15_9 rfl ?_
  refine w_idiv s15_11 (by decide) rfl ?_
  refine w_iret s15_12 rk15 ?_
  exact ⟨rfl, rfl⟩
theorem c97 {h0 h : am_H} {a b : Nat} {cc : Nat → Nat} {aa : Nat → Nat → Int32} {P : x_P} {D : x_D} (hx : XL h0 a b h cc aa P D) (iv : IV cc aa) (j : Nat) (hj : j < cc 20) (q : Nat) (hq : q < cc 3) : am_rd 97 [.ref 3, .ref (P 2 j), .int (nI q)] h (.int (am_bi (x_wc cc aa j (nI q)))) := by
  have n0 := iv.n0
  have n2 := iv.n2
  have n3 := iv.n3
  have n7 := iv.n7
  have n8 := iv.n8
  have n16 := iv.n16
  have n20 := iv.n20
  have n28 := iv.n28
  have n31 := iv.n31
  have n38 := iv.n38
  have n45 := iv.n45
  have hwd := x_ld_wd iv j (nI q) (cc 31) (Nat.le_refl _)
  show am_wp _ (_, [_, _, _], _) _ _
  refine w_aload_n s97_0 rfl ?_
  refine w_iload_n s97_1 rfl ?_
  refine w_callV1r s97_2 (hx.no (j) (by omega)) ow11 mc97_11 rfl rfl (c11 hx iv (j) (by omega) (q) (by omega)) ?_
  refine w_ifeqB s97_5 rfl  (fun c5 => ?_) (fun c5 => ?_)
  · skip
    refine w_iconst (v := 0) s97_59 rfl ?_
    refine w_zret0 s97_60 rk97 ?_
    first | exact ⟨am_zz (by clear iv; simp_all [x_wc, x_w0_lk]), rfl⟩ | exact ⟨am_zo (by clear iv; simp_all [x_wc, x_w0_lk]), rfl⟩
  · skip
    refine w_aload_n s97_8 rfl ?_
    refine w_getf s97_9 (hx.no (j) (by omega)) rfl ?_
    refine w_ifne s97_12 rfl  (fun c12 => ?_) (fun c12 => ?_)
    · skip
      refine w_iconst (v := 0) s97_59 rfl ?_
      refine w_zret0 s97_60 rk97 ?_
      first | exact ⟨am_zz (by clear iv; simp_all [x_wc, x_w0_lk]), rfl⟩ | exact ⟨am_zo (by clear iv; simp_all [x_wc, x_w0_lk]), rfl⟩
    · skip
      refine w_aload_n s97_15 rfl ?_
      refine w_getf s97_16 (hx.no (j) (by omega)) rfl ?_
      refine w_iload_n s97_19 rfl ?_
      refine w_ialdV (y := q) (v := x_ld aa (nI j) (nI q) (cc 31)) s97_20 (hx.ld (j) (by omega)) (by omega) (by decide) (x_ldr_n (by omega)) ?_
      refine w_aload_n s97_21 rfl ?_
      refine w_getf s97_22 hx.o rfl ?_
      refine w_icmpeq s97_25 rfl  (fun c25 => ?_) (fun c25 => ?_)
      · skip
        rw [decide_eq_true c25] at hwd
        refine w_iconst (v := 0) s97_59 rfl ?_
        refine w_zret0 s97_60 rk97 ?_
        first | exact ⟨am_zz (by clear iv; simp_all [x_wc, x_w0_lk]), rfl⟩ | exact ⟨am_zo (by clear iv; simp_all [x_wc, x_w0_lk]), rfl⟩
      · skip
        rw [decide_eq_false c25] at hwd
        refine w_aload_n s97_28 rfl ?_
        refine w_getf s97_29 (hx.no (j) (by omega)) rfl ?_
        refine w_iconst (v := 1) s97_32 rfl ?_
        refine w_callS2r s97_33 mc97_87 rfl rfl (c87 _ _ (by first | decide | assumption) _) ?_
        refine w_ifeqB s97_36 rfl  (fun c36 => ?_) (fun c36 => ?_)
        · skip
          refine w_iconst (v := 1) s97_55 rfl ?_
          refine w_goto s97_56 rfl ?_
          refine w_zret1 s97_60 rk97 ?_
          first | exact ⟨am_zz (by clear iv; simp_all [x_wc, x_w0_lk]), rfl⟩ | exact ⟨am_zo (by clear iv; simp_all [x_wc, x_w0_lk]), rfl⟩
        · skip
          refine w_aload_n s97_39 rfl ?_
          refine w_iload_n s97_40 rfl ?_
          refine w_aload_n s97_41 rfl ?_
          refine w_getf s97_42 hx.o rfl ?_
          refine w_aload_n s97_45 rfl ?_
          refine w_getf s97_46 hx.o rfl ?_
          refine w_callV3r s97_49 hx.o ow93 mc97_93 rfl rfl (c93 hx iv (q) (by omega) _ _) ?_
          refine w_ifeqB s97_52 rfl  (fun c52 => ?_) (fun c52 => ?_)
          · skip
            refine w_iconst (v := 0) s97_59 rfl ?_
            refine w_zret0 s97_60 rk97 ?_
            first | exact ⟨am_zz (by clear iv; simp_all [x_wc, x_w0_lk]), rfl⟩ | exact ⟨am_zo (by clear iv; simp_all [x_wc, x_w0_lk]), rfl⟩
          · skip
            refine w_iconst (v := 1) s97_55 rfl ?_
            refine w_goto s97_56 rfl ?_
            refine w_zret1 s97_60 rk97 ?_
            first | exact ⟨am_zz (by clear iv; simp_all [x_wc, x_w0_lk]), rfl⟩ | exact ⟨am_zo (by clear iv; simp_all [x_wc, x_w0_lk]), rfl⟩
theorem c99 {h0 h : am_H} {a b : Nat} {cc : Nat → Nat} {aa : Nat → Nat → Int32} {P : x_P} {D : x_D} (hx : XL h0 a b h cc aa P D) (iv : IV cc aa) (p : Int32) (i : Nat) (hi : i < cc 31) : am_rd 99 [.ref 3, .int p, .ref (P 4 i)] h (.int (am_bi (x_hears cc aa p i))) := by
  have n0 := iv.n0
  have n2 := iv.n2
  have n3 := iv.n3
  have n7 := iv.n7
  have n8 := iv.n8
  have n16 := iv.n16
  have n20 := iv.n20
  have n28 := iv.n28
  have n31 := iv.n31
  have n38 := iv.n38
  have n45 := iv.n45
  obtain ⟨q2, hq2, eq2⟩ := x_ix_i (iv.ys i hi)
  show am_wp _ (_, [_, _, _, _, _], _) _ _
  refine w_iconst (v := 0) s99_0 rfl ?_
  refine w_istore_n s99_1 rfl ?_
  show am_wp _ (_, [_, _, _, _, _], _) _ _
  refine am_lp (n := cc 38) (P := fun k => x_any (x_hf cc aa p i) k = false → ∀ v4 : Option Value, am_wp 99 (2, [_, _, _, some (.int (nI k)), v4], []) h _) ?_ 0 (Nat.zero_le _) rfl _
  intro k hk ihk hA v4
  show am_wp _ (_, [_, _, _, _, _], _) _ _
  refine w_iload_n s99_2 rfl ?_
  refine w_aload_n s99_3 rfl ?_
  refine w_getf s99_4 hx.o rfl ?_
  refine w_callV0r s99_7 (hx.l 5 (by decide)) ow181 mc99_181 rfl rfl (hx.size 5 (by decide)) ?_
  refine w_icmpgeN (x := k) (y := cc 38) s99_10 rfl (by omega) (by omega)  (fun c10 => ?_) (fun c10 => ?_)
  · skip
    have e : k = cc 38 := by omega
    subst e
    refine w_iconst (v := 0) s99_91 rfl ?_
    refine w_zret0 s99_92 rk99 ?_
    exact ⟨am_zo hA, rfl⟩
  · skip
    obtain ⟨q1, hq1, eq1⟩ := x_ix_i (iv.ps k c10)
    refine w_aload_n s99_13 rfl ?_
    refine w_getf s99_14 hx.o rfl ?_
    refine w_iload_n s99_17 rfl ?_
    refine w_callV1r s99_18 (hx.l 5 (by decide)) ow184 mc99_184 rfl rfl (hx.get 5 (by decide) (k) (show (k) < cc 38 by omega)) ?_
    refine w_cast s99_21 (hx.sy (k) (by omega)) ?_
    refine w_astore s99_24 rfl ?_
    show am_wp _ (_, [_, _, _, _, _], _) _ _
    refine w_aload s99_26 rfl ?_
    refine w_getf s99_28 (hx.sy (k) (by omega)) rfl ?_
    refine w_iload_n s99_31 rfl ?_
    refine w_icmpne s99_32 rfl  (fun c32 => ?_) (fun c32 => ?_)
    · skip
      refine w_iinc s99_85 rfl (nI_inc (k)) rfl ?_
      show am_wp _ (_, [_, _, _, _, _], _) _ _
      refine w_goto s99_88 rfl ?_
      refine ihk (by omega) ?_ _
      rw [x_any_s, hA]
      first | (clear ihk; simp [x_hf, *]; done) | (clear ihk; simp_all [x_hf]; done)
    · skip
      refine w_aload s99_35 rfl ?_
      refine w_getf s99_37 (hx.sy (k) (by omega)) rfl ?_
      refine w_aload_n s99_40 rfl ?_
      refine w_getf s99_41 (hx.cy (i) (by omega)) rfl ?_
      refine w_icmpne s99_44 rfl  (fun c44 => ?_) (fun c44 => ?_)
      · skip
        refine w_iinc s99_85 rfl (nI_inc (k)) rfl ?_
        show am_wp _ (_, [_, _, _, _, _], _) _ _
        refine w_goto s99_88 rfl ?_
        refine ihk (by omega) ?_ _
        rw [x_any_s, hA]
        first | (clear ihk; simp [x_hf, *]; done) | (clear ihk; simp_all [x_hf]; done)
      · skip
        refine w_aload_n s99_47 rfl ?_
        refine w_getf s99_48 (hx.cy (i) (by omega)) rfl ?_
        refine w_aload s99_51 rfl ?_
        refine w_getf s99_53 (hx.sy (k) (by omega)) rfl ?_
        refine w_aload s99_56 rfl ?_
        refine w_getf s99_58 (hx.sy (k) (by omega)) rfl ?_
        refine w_callS3r s99_61 mc99_77 rfl rfl (c77 _ _ _ _) ?_
        refine w_ifeqB s99_64 rfl  (fun c64 => ?_) (fun c64 => ?_)
        · skip
          refine w_iinc s99_85 rfl (nI_inc (k)) rfl ?_
          show am_wp _ (_, [_, _, _, _, _], _) _ _
          refine w_goto s99_88 rfl ?_
          refine ihk (by omega) ?_ _
          rw [x_any_s, hA]
          first | (clear ihk; simp [x_hf, *]; done) | (clear ihk; simp_all [x_hf]; done)
        · skip
          refine w_aload_n s99_67 rfl ?_
          refine w_aload s99_68 rfl ?_
          refine w_getf s99_70 (hx.sy (k) (by omega)) rfl ?_
          rw [eq1]
          refine w_aload_n s99_73 rfl ?_
          refine w_getf s99_74 (hx.cy (i) (by omega)) rfl ?_
          rw [eq2]
          refine w_callV2r s99_77 hx.o ow91 mc99_91 rfl rfl (c91 hx iv (q1) (q2) (by omega) (by omega)) ?_
          refine w_ifeqB s99_80 rfl  (fun c80 => ?_) (fun c80 => ?_)
          · skip
            refine w_iinc s99_85 rfl (nI_inc (k)) rfl ?_
            show am_wp _ (_, [_, _, _, _, _], _) _ _
            refine w_goto s99_88 rfl ?_
            refine ihk (by omega) ?_ _
            rw [x_any_s, hA]
            first | (clear ihk; simp [x_hf, *]; done) | (clear ihk; simp_all [x_hf]; done)
          · skip
            refine w_iconst (v := 1) s99_83 rfl ?_
            refine w_zret1 s99_84 rk99 ?_
            exact ⟨am_zz (x_any_t (i := k) (by first | (simp [x_hf, *]; done) | (simp_all [x_hf]; done)) _ (by omega)), rfl⟩
theorem c98 {h0 h : am_H} {a b : Nat} {cc : Nat → Nat} {aa : Nat → Nat → Int32} {P : x_P} {D : x_D} (hx : XL h0 a b h cc aa P D) (iv : IV cc aa) (p n : Int32) : am_rd 98 [.ref 3, .int p, .int n] h (.int (x_heard cc aa p n)) := by
  have n0 := iv.n0
  have n2 := iv.n2
  have n3 := iv.n3
  have n7 := iv.n7
  have n8 := iv.n8
  have n16 := iv.n16
  have n20 := iv.n20
  have n28 := iv.n28
  have n31 := iv.n31
  have n38 := iv.n38
  have n45 := iv.n45
  show am_wp _ (_, [_, _, _, _, _, _], _) _ _
  refine w_iconst (v := 0) s98_0 rfl ?_
  refine w_istore_n s98_1 rfl ?_
  show am_wp _ (_, [_, _, _, _, _, _], _) _ _
  refine w_iconst (v := 0) s98_2 rfl ?_
  refine w_istore s98_3 rfl ?_
  show am_wp _ (_, [_, _, _, _, _, _], _) _ _
  refine am_lp (n := cc 31) (P := fun i => ∀ v5 : Option Value, am_wp 98 (5, [_, _, _, some (.int (x_sum (fun i => am_bi (x_hd cc aa p n i)) i)), some (.int (nI i)), v5], []) h _) ?_ 0 (Nat.zero_le _) _
  intro i hi ihi v5
  show am_wp _ (_, [_, _, _, _, _, _], _) _ _
  refine w_iload s98_5 rfl ?_
  refine w_aload_n s98_7 rfl ?_
  refine w_getf s98_8 hx.o rfl ?_
  refine w_callV0r s98_11 (hx.l 4 (by decide)) ow181 mc98_181 rfl rfl (hx.size 4 (by decide)) ?_
  refine w_icmpgeN (x := i) (y := cc 31) s98_14 rfl (by omega) (by omega)  (fun c14 => ?_) (fun c14 => ?_)
  · skip
    refine w_iload_n s98_67 rfl ?_
    refine w_iret s98_68 rk98 ?_
    have e : i = cc 31 := by omega
    subst e
    exact ⟨rfl, rfl⟩
  · skip
    refine w_aload_n s98_17 rfl ?_
    refine w_getf s98_18 hx.o rfl ?_
    refine w_iload s98_21 rfl ?_
    refine w_callV1r s98_23 (hx.l 4 (by decide)) ow184 mc98_184 rfl rfl (hx.get 4 (by decide) (i) (show (i) < cc 31 by omega)) ?_
    refine w_cast s98_26 (hx.cy (i) (by omega)) ?_
    refine w_astore s98_29 rfl ?_
    show am_wp _ (_, [_, _, _, _, _, _], _) _ _
    refine w_aload s98_31 rfl ?_
    refine w_getf s98_33 (hx.cy (i) (by omega)) rfl ?_
    refine w_iload_n s98_36 rfl ?_
    refine w_icmpne s98_37 rfl  (fun c37 => ?_) (fun c37 => ?_)
    · skip
      refine w_iinc s98_61 rfl (nI_inc (i)) rfl ?_
      show am_wp _ (_, [_, _, _, _, _, _], _) _ _
      refine w_goto s98_64 rfl ?_
      refine am_wp_l (am_cons rfl (am_cons rfl (am_cons rfl (am_cons (am_si ?_) (am_cons rfl (am_cons rfl rfl)))))) (ihi (by omega) _)
      all_goals first | (clear ihi; simp [x_sum_s, x_hd, am_bi, *]; done) | (clear ihi; simp_all [x_sum_s, x_hd, am_bi]; done)
    · skip
      refine w_aload s98_40 rfl ?_
      refine w_getf s98_42 (hx.cy (i) (by omega)) rfl ?_
      refine w_ifeq s98_45 rfl  (fun c45 => ?_) (fun c45 => ?_)
      · skip
        refine w_iinc s98_61 rfl (nI_inc (i)) rfl ?_
        show am_wp _ (_, [_, _, _, _, _, _], _) _ _
        refine w_goto s98_64 rfl ?_
        refine am_wp_l (am_cons rfl (am_cons rfl (am_cons rfl (am_cons (am_si ?_) (am_cons rfl (am_cons rfl rfl)))))) (ihi (by omega) _)
        all_goals first | (clear ihi; simp [x_sum_s, x_hd, am_bi, *]; done) | (clear ihi; simp_all [x_sum_s, x_hd, am_bi]; done)
      · skip
        replace c45 := x_01 (iv.yk i (by omega)) c45
        refine w_aload_n s98_48 rfl ?_
        refine w_iload_n s98_49 rfl ?_
        refine w_aload s98_50 rfl ?_
        refine w_callV2r s98_52 hx.o ow99 mc98_99 rfl rfl (c99 hx iv _ (i) (by omega)) ?_
        refine w_ifeqB s98_55 rfl  (fun c55 => ?_) (fun c55 => ?_)
        · skip
          refine w_iinc s98_61 rfl (nI_inc (i)) rfl ?_
          show am_wp _ (_, [_, _, _, _, _, _], _) _ _
          refine w_goto s98_64 rfl ?_
          refine am_wp_l (am_cons rfl (am_cons rfl (am_cons rfl (am_cons (am_si ?_) (am_cons rfl (am_cons rfl rfl)))))) (ihi (by omega) _)
          all_goals first | (clear ihi; simp [x_sum_s, x_hd, am_bi, *]; done) | (clear ihi; simp_all [x_sum_s, x_hd, am_bi]; done)
        · skip
          refine w_iinc s98_58 rfl rfl rfl ?_
          show am_wp _ (_, [_, _, _, _, _, _], _) _ _
          refine w_iinc s98_61 rfl (nI_inc (i)) rfl ?_
          show am_wp _ (_, [_, _, _, _, _, _], _) _ _
          refine w_goto s98_64 rfl ?_
          refine am_wp_l (am_cons rfl (am_cons rfl (am_cons rfl (am_cons (am_si ?_) (am_cons rfl (am_cons rfl rfl)))))) (ihi (by omega) _)
          all_goals first | (clear ihi; simp [x_sum_s, x_hd, am_bi, *]; done) | (clear ihi; simp_all [x_sum_s, x_hd, am_bi]; done)
theorem c100 {h0 h : am_H} {a b : Nat} {cc : Nat → Nat} {aa : Nat → Nat → Int32} {P : x_P} {D : x_D} (hx : XL h0 a b h cc aa P D) (iv : IV cc aa) (l f : Nat) (hl : l < cc 20) (hf : f < cc 20) (k : Int32) : am_rd 100 [.ref (P 2 l), .ref (P 2 f), .int k] h (.int (am_bi (x_joins aa l f k))) := by
  have n0 := iv.n0
  have n2 := iv.n2
  have n3 := iv.n3
  have n7 := iv.n7
  have n8 := iv.n8
  have n16 := iv.n16
  have n20 := iv.n20
  have n28 := iv.n28
  have n31 := iv.n31
  have n38 := iv.n38
  have n45 := iv.n45
  obtain ⟨m1, hm1, em1⟩ := iv.mk l hl
  obtain ⟨m2, hm2, em2⟩ := iv.mk f hf
  have hbb : x_bc (aa 25 l &&& aa 25 f) = x_bits (aa 25 l &&& aa 25 f) := by
    rw [em1, em2, x_andN]
    exact x_bcb (Nat.lt_of_le_of_lt Nat.and_le_left hm1)
  clear em1 em2
  show am_wp _ (_, [_, _, _], _) _ _
  refine w_aload_n s100_0 rfl ?_
  refine w_getf s100_1 (hx.no (l) (by omega)) rfl ?_
  refine w_iconst (v := 4) s100_4 rfl ?_
  refine w_icmpne s100_5 rfl  (fun c5 => ?_) (fun c5 => ?_)
  · skip
    refine w_iconst (v := 0) s100_50 rfl ?_
    refine w_zret0 s100_51 rk100 ?_
    first | exact ⟨am_zz (by clear iv; simp_all [x_joins]), rfl⟩ | exact ⟨am_zo (by clear iv; simp [x_joins, *]), rfl⟩ | exact ⟨am_zo (by clear iv; simp_all [x_joins]), rfl⟩
  · skip
    refine w_aload_n s100_8 rfl ?_
    refine w_getf s100_9 (hx.no (f) (by omega)) rfl ?_
    refine w_iconst (v := 5) s100_12 rfl ?_
    refine w_icmpne s100_13 rfl  (fun c13 => ?_) (fun c13 => ?_)
    · skip
      refine w_iconst (v := 0) s100_50 rfl ?_
      refine w_zret0 s100_51 rk100 ?_
      first | exact ⟨am_zz (by clear iv; simp_all [x_joins]), rfl⟩ | exact ⟨am_zo (by clear iv; simp [x_joins, *]), rfl⟩ | exact ⟨am_zo (by clear iv; simp_all [x_joins]), rfl⟩
    · skip
      refine w_aload_n s100_16 rfl ?_
      refine w_getf s100_17 (hx.no (l) (by omega)) rfl ?_
      refine w_ifne s100_20 rfl  (fun c20 => ?_) (fun c20 => ?_)
      · skip
        refine w_iconst (v := 0) s100_50 rfl ?_
        refine w_zret0 s100_51 rk100 ?_
        first | exact ⟨am_zz (by clear iv; simp_all [x_joins]), rfl⟩ | exact ⟨am_zo (by clear iv; simp [x_joins, *]), rfl⟩ | exact ⟨am_zo (by clear iv; simp_all [x_joins]), rfl⟩
      · skip
        refine w_aload_n s100_23 rfl ?_
        refine w_getf s100_24 (hx.no (f) (by omega)) rfl ?_
        refine w_ifne s100_27 rfl  (fun c27 => ?_) (fun c27 => ?_)
        · skip
          refine w_iconst (v := 0) s100_50 rfl ?_
          refine w_zret0 s100_51 rk100 ?_
          first | exact ⟨am_zz (by clear iv; simp_all [x_joins]), rfl⟩ | exact ⟨am_zo (by clear iv; simp [x_joins, *]), rfl⟩ | exact ⟨am_zo (by clear iv; simp_all [x_joins]), rfl⟩
        · skip
          refine w_aload_n s100_30 rfl ?_
          refine w_getf s100_31 (hx.no (l) (by omega)) rfl ?_
          refine w_aload_n s100_34 rfl ?_
          refine w_getf s100_35 (hx.no (f) (by omega)) rfl ?_
          refine w_iand s100_38 rfl ?_
          refine w_callS1r s100_39 mc100_175 rfl rfl (c175 _ _) ?_
          rw [hbb]
          clear hbb
          refine w_iload_n s100_42 rfl ?_
          refine w_icmplt s100_43 rfl  (fun c43 => ?_) (fun c43 => ?_)
          · skip
            refine w_iconst (v := 0) s100_50 rfl ?_
            refine w_zret0 s100_51 rk100 ?_
            first | exact ⟨am_zz (by clear iv; simp_all [x_joins]), rfl⟩ | exact ⟨am_zo (by clear iv; simp [x_joins, *]), rfl⟩ | exact ⟨am_zo (by clear iv; simp_all [x_joins]), rfl⟩
          · skip
            refine w_iconst (v := 1) s100_46 rfl ?_
            refine w_goto s100_47 rfl ?_
            refine w_zret1 s100_51 rk100 ?_
            first | exact ⟨am_zz (by clear iv; simp_all [x_joins]), rfl⟩ | exact ⟨am_zo (by clear iv; simp [x_joins, *]), rfl⟩ | exact ⟨am_zo (by clear iv; simp_all [x_joins]), rfl⟩
theorem c101 {h0 h : am_H} {a b : Nat} {cc : Nat → Nat} {aa : Nat → Nat → Int32} {P : x_P} {D : x_D} (hx : XL h0 a b h cc aa P D) (iv : IV cc aa) (j : Nat) (hj : j < cc 20) : am_rd 101 [.ref 3, .ref (P 2 j)] h (.int (x_jl cc aa j)) := by
  have n0 := iv.n0
  have n2 := iv.n2
  have n3 := iv.n3
  have n7 := iv.n7
  have n8 := iv.n8
  have n16 := iv.n16
  have n20 := iv.n20
  have n28 := iv.n28
  have n31 := iv.n31
  have n38 := iv.n38
  have n45 := iv.n45
  show am_wp _ (_, [_, _, _, _], _) _ _
  refine w_iconst (v := 0) s101_0 rfl ?_
  refine w_istore_n s101_1 rfl ?_
  show am_wp _ (_, [_, _, _, _], _) _ _
  refine w_iconst (v := 0) s101_2 rfl ?_
  refine w_istore_n s101_3 rfl ?_
  show am_wp _ (_, [_, _, _, _], _) _ _
  refine am_lp (n := cc 20) (P := fun l => am_wp 101 (4, [_, _, some (.int (x_sum (fun l => am_bi (x_joins aa l j 1)) l)), some (.int (nI l))], []) h _) ?_ 0 (Nat.zero_le _)
  intro l hl ihl
  show am_wp _ (_, [_, _, _, _], _) _ _
  refine w_iload_n s101_4 rfl ?_
  refine w_aload_n s101_5 rfl ?_
  refine w_getf s101_6 hx.o rfl ?_
  refine w_callV0r s101_9 (hx.l 2 (by decide)) ow181 mc101_181 rfl rfl (hx.size 2 (by decide)) ?_
  refine w_icmpgeN (x := l) (y := cc 20) s101_12 rfl (by omega) (by omega)  (fun c12 => ?_) (fun c12 => ?_)
  · skip
    refine w_iload_n s101_43 rfl ?_
    refine w_iret s101_44 rk101 ?_
    have e : l = cc 20 := by omega
    subst e
    exact ⟨rfl, rfl⟩
  · skip
    refine w_aload_n s101_15 rfl ?_
    refine w_getf s101_16 hx.o rfl ?_
    refine w_iload_n s101_19 rfl ?_
    refine w_callV1r s101_20 (hx.l 2 (by decide)) ow184 mc101_184 rfl rfl (hx.get 2 (by decide) (l) (show (l) < cc 20 by omega)) ?_
    refine w_cast s101_23 (hx.no (l) (by omega)) ?_
    refine w_aload_n s101_26 rfl ?_
    refine w_iconst (v := 1) s101_27 rfl ?_
    refine w_callS3r s101_28 mc101_100 rfl rfl (c100 hx iv (l) (j) (by omega) (by omega) _) ?_
    refine w_ifeqB s101_31 rfl  (fun c31 => ?_) (fun c31 => ?_)
    · skip
      refine w_iinc s101_37 rfl (nI_inc (l)) rfl ?_
      show am_wp _ (_, [_, _, _, _], _) _ _
      refine w_goto s101_40 rfl ?_
      refine am_wp_l (am_cons rfl (am_cons rfl (am_cons (am_si ?_) (am_cons rfl rfl)))) (ihl (by omega))
      all_goals first | (clear ihl; simp [x_sum_s, am_bi, *]; done) | (clear ihl; simp_all [x_sum_s, am_bi]; done)
    · skip
      refine w_iinc s101_34 rfl rfl rfl ?_
      show am_wp _ (_, [_, _, _, _], _) _ _
      refine w_iinc s101_37 rfl (nI_inc (l)) rfl ?_
      show am_wp _ (_, [_, _, _, _], _) _ _
      refine w_goto s101_40 rfl ?_
      refine am_wp_l (am_cons rfl (am_cons rfl (am_cons (am_si ?_) (am_cons rfl rfl)))) (ihl (by omega))
      all_goals first | (clear ihl; simp [x_sum_s, am_bi, *]; done) | (clear ihl; simp_all [x_sum_s, am_bi]; done)
