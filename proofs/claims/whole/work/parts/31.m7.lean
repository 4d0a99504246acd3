/-! the reference: criers and cries -/
def x_ready (aa : Nat → Nat → Int32) (c : Nat) (q : Int32) : Int32 := aa 30 c + x_walks aa (aa 29 c) q
def x_readyA (cc : Nat → Nat) (aa : Nat → Nat → Int32) (c q : Int32) : Int32 := if x_ix (cc 28) c = true ∧ x_ix (cc 3) q = true then x_ready aa (tn c) q else -1
def x_w0 (cc : Nat → Nat) (aa : Nat → Nat → Int32) (j : Nat) (q : Int32) : Bool := x_has (aa 23 j) q && decide (aa 27 j = 0) && decide (x_cn aa (nI j) q (cc 31) < aa 24 j)
def x_wd (cc : Nat → Nat) (aa : Nat → Nat → Int32) (j : Nat) (q : Int32) : Nat → Bool := x_any (fun i => x_cf aa (nI j) q i && decide (aa 35 i = nI (cc 2)))
theorem x_wd_s (cc : Nat → Nat) (aa : Nat → Nat → Int32) (j : Nat) (q : Int32) (i : Nat) : x_wd cc aa j q (i + 1) = (x_wd cc aa j q i || (x_cf aa (nI j) q i && decide (aa 35 i = nI (cc 2)))) := rfl
theorem x_wd_0 (cc : Nat → Nat) (aa : Nat → Nat → Int32) (j : Nat) (q : Int32) : x_wd cc aa j q 0 = false := rfl
def x_wc (cc : Nat → Nat) (aa : Nat → Nat → Int32) (j : Nat) (q : Int32) : Bool := (x_w0 cc aa j q && !x_wd cc aa j q (cc 31)) && (!x_fits (aa 21 j) 1 || x_mkt aa q (nI (cc 2)) (nI (cc 2)) (cc 8))
def x_nf (cc : Nat → Nat) (aa : Nat → Nat → Int32) (c q m : Int32) (i : Nat) : Bool := decide (aa 35 i = nI (cc 2)) && !decide (aa 33 i = c) && !decide (5 ≤ x_ad (aa 36 i) m) && !decide (nI (cc 7) < x_walks aa (aa 34 i) q)
def x_near (cc : Nat → Nat) (aa : Nat → Nat → Int32) (c q m : Int32) : Bool := x_any (x_nf cc aa c q m) (cc 31)
def S_cry (cc : Nat → Nat) (aa : Nat → Nat → Int32) (n c q m : Int32) : x_A := if x_ix (cc 20) n = true ∧ x_ix (cc 28) c = true ∧ x_ix (cc 3) q = true ∧ x_in m 0 1439 = true then (if cc 31 = 400 then (-2, cc, aa) else if x_ready aa (tn c) q ≤ m then (if x_near cc aa c q m = true then (-5, cc, aa) else (am_bi (x_wc cc aa (tn n) q), uc cc 31 (cc 31 + 1), ua (ua (ua (ua (ua (ua (ua (ua aa 32 (upd (aa 32) (cc 31) n)) 33 (upd (aa 33) (cc 31) c)) 34 (upd (aa 34) (cc 31) q)) 35 (upd (aa 35) (cc 31) (nI (cc 2)))) 36 (upd (aa 36) (cc 31) m)) 37 (upd (aa 37) (cc 31) (am_bi (x_wc cc aa (tn n) q)))) 29 (upd (aa 29) (tn c) q)) 30 (upd (aa 30) (tn c) (m + (aa 22 (tn n) + 9) / 10)))) else (-4, cc, aa)) else (-1, cc, aa)
def x_cntA (cc : Nat → Nat) (aa : Nat → Nat → Int32) (n q : Int32) : Int32 := if x_ix (cc 20) n = true ∧ x_ix (cc 3) q = true then x_cn aa n q (cc 31) else -1
def x_tc (aa : Nat → Nat → Int32) (i : Nat) (w : Int32) : Int32 := if w = 0 then aa 32 i else if w = 1 then aa 33 i else if w = 2 then aa 34 i else if w = 3 then aa 35 i else if w = 4 then aa 36 i else aa 37 i
def x_ctold (cc : Nat → Nat) (aa : Nat → Nat → Int32) (i w : Int32) : Int32 := if x_in w 0 5 = true then (if x_ix (cc 31) i = true then x_tc aa (tn i) w else -9) else -1
def x_due (cc : Nat → Nat) (aa : Nat → Nat → Int32) (q : Int32) : Int32 := if x_ix (cc 3) q = true then x_sum (fun k => am_bi (x_wc cc aa k q)) (cc 20) else -1
/-- how many of the first n -/
def x_ct (p : Nat → Bool) : Nat → Nat
  | 0 => 0
  | n + 1 => x_ct p n + (if p n = true then 1 else 0)
theorem x_ct_s (p : Nat → Bool) (n : Nat) : x_ct p (n + 1) = x_ct p n + (if p n = true then 1 else 0) := rfl
theorem x_ct_le (p : Nat → Bool) : ∀ n, x_ct p n ≤ n
  | 0 => Nat.le_refl 0
  | n + 1 => by
    have := x_ct_le p n
    rw [x_ct_s]
    split <;> omega
/-- the i-th of them -/
def x_np (p : Nat → Bool) (i : Int32) (k : Nat) : Bool := p k && decide (nI (x_ct p k) = i)
def x_nth (p : Nat → Bool) (n : Nat) (i : Int32) : Int32 := x_first (x_np p i) n
theorem x_nth_g {p : Nat → Bool} {i : Int32} (h : i < 0) : ∀ {n : Nat}, n < 2 ^ 31 → x_any (x_np p i) n = false
  | 0, _ => rfl
  | n + 1, hn => by
    rw [x_any_s, x_nth_g h (by omega), Bool.false_or]
    unfold x_np
    have := x_ct_le p n
    rw [decide_eq_false (fun e => nI_pos (show x_ct p n < 2 ^ 31 by omega) (by rw [e]; exact h)), Bool.and_false]
def x_dueAt (cc : Nat → Nat) (aa : Nat → Nat → Int32) (q i : Int32) : Int32 := if x_ix (cc 3) q = true then x_nth (fun k => x_wc cc aa k q) (cc 20) i else -1
theorem c150 {h : am_H} {cc : Nat → Nat} {aa : Nat → Nat → Int32} (hw : MW h cc aa) (iv : IV cc aa) (c : Nat) (hc : c < cc 28) (q : Int32) (hq : x_ix (cc 3) q = true) : am_rd 150 [.ref 27, .int (nI c), .int q] h (.int (x_ready aa c q)) := by
  have n0 := iv.n0
  have n2 := iv.n2
  have n3 := iv.n3
  have n7 := iv.n7
  have n8 := iv.n8
  have n16 := iv.n16
  have n20 := iv.n20
  have n28 := iv.n28
  have n31 := iv.n31
  have n38 := iv.n38
  have n45 := iv.n45
  have hcr := iv.cr c hc
  show am_wp _ (_, [_, _, _], _) _ _
  refine w_aload_n s150_0 rfl ?_
  refine w_getf s150_1 (hw 0 _ rfl) rfl ?_
  refine w_iload_n s150_4 rfl ?_
  refine w_ialdN (y := c) s150_5 (hw 23 _ rfl) (by omega) (by decide) ?_
  refine w_aload_n s150_6 rfl ?_
  refine w_aload_n s150_7 rfl ?_
  refine w_getf s150_8 (hw 0 _ rfl) rfl ?_
  refine w_iload_n s150_11 rfl ?_
  refine w_ialdN (y := c) s150_12 (hw 22 _ rfl) (by omega) (by decide) ?_
  refine w_iload_n s150_13 rfl ?_
  refine w_callV2r s150_14 (hw 0 _ rfl) ow109 mc150_109 rfl rfl (c109 hw n3 _ _ (by assumption) (by assumption)) ?_
  refine w_iadd s150_17 rfl ?_
  refine w_iret s150_18 rk150 ?_
  exact ⟨rfl, rfl⟩
theorem c151 {h : am_H} {cc : Nat → Nat} {aa : Nat → Nat → Int32} (hw : MW h cc aa) (iv : IV cc aa) (c q : Int32) : am_rd 151 [.ref 27, .int c, .int q] h (.int (x_readyA cc aa c q)) := by
  have n0 := iv.n0
  have n2 := iv.n2
  have n3 := iv.n3
  have n7 := iv.n7
  have n8 := iv.n8
  have n16 := iv.n16
  have n20 := iv.n20
  have n28 := iv.n28
  have n31 := iv.n31
  have n38 := iv.n38
  have n45 := iv.n45
  show am_wp _ (_, [_, _, _], _) _ _
  refine w_aload_n s151_0 rfl ?_
  refine w_iload_n s151_1 rfl ?_
  refine w_callV1r s151_2 (hw 0 _ rfl) ow148 mc151_148 rfl rfl (c148 hw iv _) ?_
  refine w_ifeqB s151_5 rfl  (fun c5 => ?_) (fun c5 => ?_)
  · skip
    refine w_iconst (v := (-1)) s151_25 rfl ?_
    refine w_iret s151_26 rk151 ?_
    exact ⟨by simp [x_readyA, *], rfl⟩
  · skip
    obtain ⟨c1, hc1, rfl⟩ := x_ix_i c5
    have c1cl := nI_clamp (show c1 < 2 ^ 31 by omega)
    refine w_aload_n s151_8 rfl ?_
    refine w_iload_n s151_9 rfl ?_
    refine w_callV1r s151_10 (hw 0 _ rfl) ow107 mc151_107 rfl rfl (c107 hw iv _) ?_
    refine w_ifeqB s151_13 rfl  (fun c13 => ?_) (fun c13 => ?_)
    · skip
      refine w_iconst (v := (-1)) s151_25 rfl ?_
      refine w_iret s151_26 rk151 ?_
      exact ⟨by simp [x_readyA, *], rfl⟩
    · skip
      refine w_aload_n s151_16 rfl ?_
      refine w_iload_n s151_17 rfl ?_
      refine w_iload_n s151_18 rfl ?_
      refine w_callV2r s151_19 (hw 0 _ rfl) ow150 mc151_150 rfl rfl (c150 hw iv c1 (by omega) _ (by assumption)) ?_
      refine w_goto s151_22 rfl ?_
      refine w_iret s151_26 rk151 ?_
      exact ⟨by simp [x_readyA, *], rfl⟩
theorem c152 {h : am_H} {cc : Nat → Nat} {aa : Nat → Nat → Int32} (hw : MW h cc aa) (iv : IV cc aa) (j : Nat) (hj : j < cc 20) (q : Int32) (hq : x_ix (cc 3) q = true) : am_rd 152 [.ref 27, .int (nI j), .int q] h (.int (am_bi (x_wc cc aa j q))) := by
  have n0 := iv.n0
  have n2 := iv.n2
  have n3 := iv.n3
  have n7 := iv.n7
  have n8 := iv.n8
  have n16 := iv.n16
  have n20 := iv.n20
  have n28 := iv.n28
  have n31 := iv.n31
  have n38 := iv.n38
  have n45 := iv.n45
  show am_wp _ (_, [_, _, _, _, _], _) _ _
  refine w_aload_n s152_0 rfl ?_
  refine w_getf s152_1 (hw 0 _ rfl) rfl ?_
  refine w_iload_n s152_4 rfl ?_
  refine w_ialdN (y := j) s152_5 (hw 17 _ rfl) (by omega) (by decide) ?_
  refine w_iload_n s152_6 rfl ?_
  refine w_callS2r s152_7 mc152_105 rfl rfl (c105 _ _ _) ?_
  refine w_ifeqB s152_10 rfl  (fun c10 => ?_) (fun c10 => ?_)
  · skip
    refine w_iconst (v := 0) s152_41 rfl ?_
    refine w_istore_n s152_42 rfl ?_
    show am_wp _ (_, [_, _, _, _, _], _) _ _
    refine w_iconst (v := 0) s152_43 rfl ?_
    refine w_istore s152_44 rfl ?_
    show am_wp _ (_, [_, _, _, _, _], _) _ _
    refine am_wp_l (am_cons rfl (am_cons rfl (am_cons rfl (am_cons (am_si ?_) (am_cons rfl rfl))))) (am_lp (n := cc 31) (P := fun i => am_wp 152 (46, [_, _, _, some (.int (am_bi (x_w0 cc aa j q && !x_wd cc aa j q i))), some (.int (nI i))], []) h _) ?_ 0 (Nat.zero_le _))
    · simp [x_w0, x_wd_0, am_bi, *]
    intro i hi ihi
    show am_wp _ (_, [_, _, _, _, _], _) _ _
    refine w_iload s152_46 rfl ?_
    refine w_aload_n s152_48 rfl ?_
    refine w_getf s152_49 (hw 0 _ rfl) rfl ?_
    refine w_icmpgeN (x := i) (y := cc 31) s152_52 rfl (by omega) (by omega)  (fun c52 => ?_) (fun c52 => ?_)
    · skip
      have e : i = cc 31 := by omega
      subst e
      refine w_iload_n s152_118 rfl ?_
      refine w_ifeqB s152_119 rfl  (fun c119 => ?_) (fun c119 => ?_)
      · skip
        refine w_iconst (v := 0) s152_155 rfl ?_
        refine w_zret0 s152_156 rk152 ?_
        first | exact ⟨am_zz (by simp [x_wc, *]), rfl⟩ | exact ⟨am_zo (by simp [x_wc, *]), rfl⟩ | exact ⟨am_zo (by simp_all [x_wc]), rfl⟩
      · skip
        refine w_aload_n s152_122 rfl ?_
        refine w_getf s152_123 (hw 0 _ rfl) rfl ?_
        refine w_iload_n s152_126 rfl ?_
        refine w_ialdN (y := j) s152_127 (hw 15 _ rfl) (by omega) (by decide) ?_
        refine w_iconst (v := 1) s152_128 rfl ?_
        refine w_callS2r s152_129 mc152_136 rfl rfl (c136 _ _ _) ?_
        refine w_ifeqB s152_132 rfl  (fun c132 => ?_) (fun c132 => ?_)
        · skip
          refine w_iconst (v := 1) s152_151 rfl ?_
          refine w_goto s152_152 rfl ?_
          refine w_zret1 s152_156 rk152 ?_
          first | exact ⟨am_zz (by simp [x_wc, *]), rfl⟩ | exact ⟨am_zo (by simp [x_wc, *]), rfl⟩ | exact ⟨am_zo (by simp_all [x_wc]), rfl⟩
        · skip
          refine w_aload_n s152_135 rfl ?_
          refine w_iload_n s152_136 rfl ?_
          refine w_aload_n s152_137 rfl ?_
          refine w_getf s152_138 (hw 0 _ rfl) rfl ?_
          refine w_aload_n s152_141 rfl ?_
          refine w_getf s152_142 (hw 0 _ rfl) rfl ?_
          refine w_callV3r s152_145 (hw 0 _ rfl) ow115 mc152_115 rfl rfl (c115 hw iv _ _ _ (by assumption)) ?_
          refine w_ifeqB s152_148 rfl  (fun c148 => ?_) (fun c148 => ?_)
          · skip
            refine w_iconst (v := 0) s152_155 rfl ?_
            refine w_zret0 s152_156 rk152 ?_
            first | exact ⟨am_zz (by simp [x_wc, *]), rfl⟩ | exact ⟨am_zo (by simp [x_wc, *]), rfl⟩ | exact ⟨am_zo (by simp_all [x_wc]), rfl⟩
          · skip
            refine w_iconst (v := 1) s152_151 rfl ?_
            refine w_goto s152_152 rfl ?_
            refine w_zret1 s152_156 rk152 ?_
            first | exact ⟨am_zz (by simp [x_wc, *]), rfl⟩ | exact ⟨am_zo (by simp [x_wc, *]), rfl⟩ | exact ⟨am_zo (by simp_all [x_wc]), rfl⟩
    · skip
      refine w_iload_n s152_55 rfl ?_
      refine w_ifeqB s152_56 rfl  (fun c56 => ?_) (fun c56 => ?_)
      · skip
        refine w_iconst (v := 0) s152_110 rfl ?_
        refine w_istore_n s152_111 rfl ?_
        show am_wp _ (_, [_, _, _, _, _], _) _ _
        refine w_iinc s152_112 rfl (nI_inc (i)) rfl ?_
        show am_wp _ (_, [_, _, _, _, _], _) _ _
        refine w_goto s152_115 rfl ?_
        refine am_wp_l (am_cons rfl (am_cons rfl (am_cons rfl (am_cons (am_si ?_) (am_cons rfl rfl))))) (ihi (by omega))
        all_goals first | (clear ihi; simp [x_wd_s, x_cf, am_bi, *]; done) | (clear ihi; simp_all [x_wd_s, x_cf, am_bi]; done)
      · skip
        refine w_aload_n s152_59 rfl ?_
        refine w_getf s152_60 (hw 0 _ rfl) rfl ?_
        refine w_iload s152_63 rfl ?_
        refine w_ialdN (y := i) s152_65 (hw 29 _ rfl) (by omega) (by decide) ?_
        refine w_iconst (v := 1) s152_66 rfl ?_
        refine w_icmpne s152_67 rfl  (fun c67 => ?_) (fun c67 => ?_)
        · skip
          refine w_iconst (v := 1) s152_106 rfl ?_
          refine w_goto s152_107 rfl ?_
          refine w_istore_n s152_111 rfl ?_
          show am_wp _ (_, [_, _, _, _, _], _) _ _
          refine w_iinc s152_112 rfl (nI_inc (i)) rfl ?_
          show am_wp _ (_, [_, _, _, _, _], _) _ _
          refine w_goto s152_115 rfl ?_
          refine am_wp_l (am_cons rfl (am_cons rfl (am_cons rfl (am_cons (am_si ?_) (am_cons rfl rfl))))) (ihi (by omega))
          all_goals first | (clear ihi; simp [x_wd_s, x_cf, am_bi, *]; done) | (clear ihi; simp_all [x_wd_s, x_cf, am_bi]; done)
        · skip
          refine w_aload_n s152_70 rfl ?_
          refine w_getf s152_71 (hw 0 _ rfl) rfl ?_
          refine w_iload s152_74 rfl ?_
          refine w_ialdN (y := i) s152_76 (hw 24 _ rfl) (by omega) (by decide) ?_
          refine w_iload_n s152_77 rfl ?_
          refine w_icmpne s152_78 rfl  (fun c78 => ?_) (fun c78 => ?_)
          · skip
            refine w_iconst (v := 1) s152_106 rfl ?_
            refine w_goto s152_107 rfl ?_
            refine w_istore_n s152_111 rfl ?_
            show am_wp _ (_, [_, _, _, _, _], _) _ _
            refine w_iinc s152_112 rfl (nI_inc (i)) rfl ?_
            show am_wp _ (_, [_, _, _, _, _], _) _ _
            refine w_goto s152_115 rfl ?_
            refine am_wp_l (am_cons rfl (am_cons rfl (am_cons rfl (am_cons (am_si ?_) (am_cons rfl rfl))))) (ihi (by omega))
            all_goals first | (clear ihi; simp [x_wd_s, x_cf, am_bi, *]; done) | (clear ihi; simp_all [x_wd_s, x_cf, am_bi]; done)
          · skip
            refine w_aload_n s152_81 rfl ?_
            refine w_getf s152_82 (hw 0 _ rfl) rfl ?_
            refine w_iload s152_85 rfl ?_
            refine w_ialdN (y := i) s152_87 (hw 26 _ rfl) (by omega) (by decide) ?_
            refine w_iload_n s152_88 rfl ?_
            refine w_icmpne s152_89 rfl  (fun c89 => ?_) (fun c89 => ?_)
            · skip
              refine w_iconst (v := 1) s152_106 rfl ?_
              refine w_goto s152_107 rfl ?_
              refine w_istore_n s152_111 rfl ?_
              show am_wp _ (_, [_, _, _, _, _], _) _ _
              refine w_iinc s152_112 rfl (nI_inc (i)) rfl ?_
              show am_wp _ (_, [_, _, _, _, _], _) _ _
              refine w_goto s152_115 rfl ?_
              refine am_wp_l (am_cons rfl (am_cons rfl (am_cons rfl (am_cons (am_si ?_) (am_cons rfl rfl))))) (ihi (by omega))
              all_goals first | (clear ihi; simp [x_wd_s, x_cf, am_bi, *]; done) | (clear ihi; simp_all [x_wd_s, x_cf, am_bi]; done)
            · skip
              refine w_aload_n s152_92 rfl ?_
              refine w_getf s152_93 (hw 0 _ rfl) rfl ?_
              refine w_iload s152_96 rfl ?_
              refine w_ialdN (y := i) s152_98 (hw 27 _ rfl) (by omega) (by decide) ?_
              refine w_aload_n s152_99 rfl ?_
              refine w_getf s152_100 (hw 0 _ rfl) rfl ?_
              refine w_icmpeq s152_103 rfl  (fun c103 => ?_) (fun c103 => ?_)
              · skip
                refine w_iconst (v := 0) s152_110 rfl ?_
                refine w_istore_n s152_111 rfl ?_
                show am_wp _ (_, [_, _, _, _, _], _) _ _
                refine w_iinc s152_112 rfl (nI_inc (i)) rfl ?_
                show am_wp _ (_, [_, _, _, _, _], _) _ _
                refine w_goto s152_115 rfl ?_
                refine am_wp_l (am_cons rfl (am_cons rfl (am_cons rfl (am_cons (am_si ?_) (am_cons rfl rfl))))) (ihi (by omega))
                all_goals first | (clear ihi; simp [x_wd_s, x_cf, am_bi, *]; done) | (clear ihi; simp_all [x_wd_s, x_cf, am_bi]; done)
              · skip
                refine w_iconst (v := 1) s152_106 rfl ?_
                refine w_goto s152_107 rfl ?_
                refine w_istore_n s152_111 rfl ?_
                show am_wp _ (_, [_, _, _, _, _], _) _ _
                refine w_iinc s152_112 rfl (nI_inc (i)) rfl ?_
                show am_wp _ (_, [_, _, _, _, _], _) _ _
                refine w_goto s152_115 rfl ?_
                refine am_wp_l (am_cons rfl (am_cons rfl (am_cons rfl (am_cons (am_si ?_) (am_cons rfl rfl))))) (ihi (by omega))
                all_goals first | (clear ihi; simp [x_wd_s, x_cf, am_bi, *]; done) | (clear ihi; simp_all [x_wd_s, x_cf, am_bi]; done)
  · skip
    refine w_aload_n s152_13 rfl ?_
    refine w_getf s152_14 (hw 0 _ rfl) rfl ?_
    refine w_iload_n s152_17 rfl ?_
    refine w_baldN (y := j) s152_18 (hw 21 _ rfl) (Or.inr rfl) (by omega) (by decide) ?_
    refine w_ifne s152_19 rfl  (fun c19 => ?_) (fun c19 => ?_)
    · skip
      refine w_iconst (v := 0) s152_41 rfl ?_
      refine w_istore_n s152_42 rfl ?_
      show am_wp _ (_, [_, _, _, _, _], _) _ _
      refine w_iconst (v := 0) s152_43 rfl ?_
      refine w_istore s152_44 rfl ?_
      show am_wp _ (_, [_, _, _, _, _], _) _ _
      refine am_wp_l (am_cons rfl (am_cons rfl (am_cons rfl (am_cons (am_si ?_) (am_cons rfl rfl))))) (am_lp (n := cc 31) (P := fun i => am_wp 152 (46, [_, _, _, some (.int (am_bi (x_w0 cc aa j q && !x_wd cc aa j q i))), some (.int (nI i))], []) h _) ?_ 0 (Nat.zero_le _))
      · simp [x_w0, x_wd_0, am_bi, *]
      intro i hi ihi
      show am_wp _ (_, [_, _, _, _, _], _) _ _
      refine w_iload s152_46 rfl ?_
      refine w_aload_n s152_48 rfl ?_
      refine w_getf s152_49 (hw 0 _ rfl) rfl ?_
      refine w_icmpgeN (x := i) (y := cc 31) s152_52 rfl (by omega) (by omega)  (fun c52 => ?_) (fun c52 => ?_)
      · skip
        have e : i = cc 31 := by omega
        subst e
        refine w_iload_n s152_118 rfl ?_
        refine w_ifeqB s152_119 rfl  (fun c119 => ?_) (fun c119 => ?_)
        · skip
          refine w_iconst (v := 0) s152_155 rfl ?_
          refine w_zret0 s152_156 rk152 ?_
          first | exact ⟨am_zz (by simp [x_wc, *]), rfl⟩ | exact ⟨am_zo (by simp [x_wc, *]), rfl⟩ | exact ⟨am_zo (by simp_all [x_wc]), rfl⟩
        · skip
          refine w_aload_n s152_122 rfl ?_
          refine w_getf s152_123 (hw 0 _ rfl) rfl ?_
          refine w_iload_n s152_126 rfl ?_
          refine w_ialdN (y := j) s152_127 (hw 15 _ rfl) (by omega) (by decide) ?_
          refine w_iconst (v := 1) s152_128 rfl ?_
          refine w_callS2r s152_129 mc152_136 rfl rfl (c136 _ _ _) ?_
          refine w_ifeqB s152_132 rfl  (fun c132 => ?_) (fun c132 => ?_)
          · skip
            refine w_iconst (v := 1) s152_151 rfl ?_
            refine w_goto s152_152 rfl ?_
            refine w_zret1 s152_156 rk152 ?_
            first | exact ⟨am_zz (by simp [x_wc, *]), rfl⟩ | exact ⟨am_zo (by simp [x_wc, *]), rfl⟩ | exact ⟨am_zo (by simp_all [x_wc]), rfl⟩
          · skip
            refine w_aload_n s152_135 rfl ?_
            refine w_iload_n s152_136 rfl ?_
            refine w_aload_n s152_137 rfl ?_
            refine w_getf s152_138 (hw 0 _ rfl) rfl ?_
            refine w_aload_n s152_141 rfl ?_
            refine w_getf s152_142 (hw 0 _ rfl) rfl ?_
            refine w_callV3r s152_145 (hw 0 _ rfl) ow115 mc152_115 rfl rfl (c115 hw iv _ _ _ (by assumption)) ?_
            refine w_ifeqB s152_148 rfl  (fun c148 => ?_) (fun c148 => ?_)
            · skip
              refine w_iconst (v := 0) s152_155 rfl ?_
              refine w_zret0 s152_156 rk152 ?_
              first | exact ⟨am_zz (by simp [x_wc, *]), rfl⟩ | exact ⟨am_zo (by simp [x_wc, *]), rfl⟩ | exact ⟨am_zo (by simp_all [x_wc]), rfl⟩
            · skip
              refine w_iconst (v := 1) s152_151 rfl ?_
              refine w_goto s152_152 rfl ?_
              refine w_zret1 s152_156 rk152 ?_
              first | exact ⟨am_zz (by simp [x_wc, *]), rfl⟩ | exact ⟨am_zo (by simp [x_wc, *]), rfl⟩ | exact ⟨am_zo (by simp_all [x_wc]), rfl⟩
      · skip
        refine w_iload_n s152_55 rfl ?_
        refine w_ifeqB s152_56 rfl  (fun c56 => ?_) (fun c56 => ?_)
        · skip
          refine w_iconst (v := 0) s152_110 rfl ?_
          refine w_istore_n s152_111 rfl ?_
          show am_wp _ (_, [_, _, _, _, _], _) _ _
          refine w_iinc s152_112 rfl (nI_inc (i)) rfl ?_
          show am_wp _ (_, [_, _, _, _, _], _) _ _
          refine w_goto s152_115 rfl ?_
          refine am_wp_l (am_cons rfl (am_cons rfl (am_cons rfl (am_cons (am_si ?_) (am_cons rfl rfl))))) (ihi (by omega))
          all_goals first | (clear ihi; simp [x_wd_s, x_cf, am_bi, *]; done) | (clear ihi; simp_all [x_wd_s, x_cf, am_bi]; done)
        · skip
          refine w_aload_n s152_59 rfl ?_
          refine w_getf s152_60 (hw 0 _ rfl) rfl ?_
          refine w_iload s152_63 rfl ?_
          refine w_ialdN (y := i) s152_65 (hw 29 _ rfl) (by omega) (by decide) ?_
          refine w_iconst (v := 1) s152_66 rfl ?_
          refine w_icmpne s152_67 rfl  (fun c67 => ?_) (fun c67 => ?_)
          · skip
            refine w_iconst (v := 1) s152_106 rfl ?_
            refine w_goto s152_107 rfl ?_
            refine w_istore_n s152_111 rfl ?_
            show am_wp _ (_, [_, _, _, _, _], _) _ _
            refine w_iinc s152_112 rfl (nI_inc (i)) rfl ?_
            show am_wp _ (_, [_, _, _, _, _], _) _ _
            refine w_goto s152_115 rfl ?_
            refine am_wp_l (am_cons rfl (am_cons rfl (am_cons rfl (am_cons (am_si ?_) (am_cons rfl rfl))))) (ihi (by omega))
            all_goals first | (clear ihi; simp [x_wd_s, x_cf, am_bi, *]; done) | (clear ihi; simp_all [x_wd_s, x_cf, am_bi]; done)
          · skip
            refine w_aload_n s152_70 rfl ?_
            refine w_getf s152_71 (hw 0 _ rfl) rfl ?_
            refine w_iload s152_74 rfl ?_
            refine w_ialdN (y := i) s152_76 (hw 24 _ rfl) (by omega) (by decide) ?_
            refine w_iload_n s152_77 rfl ?_
            refine w_icmpne s152_78 rfl  (fun c78 => ?_) (fun c78 => ?_)
            · skip
              refine w_iconst (v := 1) s152_106 rfl ?_
              refine w_goto s152_107 rfl ?_
              refine w_istore_n s152_111 rfl ?_
              show am_wp _ (_, [_, _, _, _, _], _) _ _
              refine w_iinc s152_112 rfl (nI_inc (i)) rfl ?_
              show am_wp _ (_, [_, _, _, _, _], _) _ _
              refine w_goto s152_115 rfl ?_
              refine am_wp_l (am_cons rfl (am_cons rfl (am_cons rfl (am_cons (am_si ?_) (am_cons rfl rfl))))) (ihi (by omega))
              all_goals first | (clear ihi; simp [x_wd_s, x_cf, am_bi, *]; done) | (clear ihi; simp_all [x_wd_s, x_cf, am_bi]; done)
            · skip
              refine w_aload_n s152_81 rfl ?_
              refine w_getf s152_82 (hw 0 _ rfl) rfl ?_
              refine w_iload s152_85 rfl ?_
              refine w_ialdN (y := i) s152_87 (hw 26 _ rfl) (by omega) (by decide) ?_
              refine w_iload_n s152_88 rfl ?_
              refine w_icmpne s152_89 rfl  (fun c89 => ?_) (fun c89 => ?_)
              · skip
                refine w_iconst (v := 1) s152_106 rfl ?_
                refine w_goto s152_107 rfl ?_
                refine w_istore_n s152_111 rfl ?_
                show am_wp _ (_, [_, _, _, _, _], _) _ _
                refine w_iinc s152_112 rfl (nI_inc (i)) rfl ?_
                show am_wp _ (_, [_, _, _, _, _], _) _ _
                refine w_goto s152_115 rfl ?_
                refine am_wp_l (am_cons rfl (am_cons rfl (am_cons rfl (am_cons (am_si ?_) (am_cons rfl rfl))))) (ihi (by omega))
                all_goals first | (clear ihi; simp [x_wd_s, x_cf, am_bi, *]; done) | (clear ihi; simp_all [x_wd_s, x_cf, am_bi]; done)
              · skip
                refine w_aload_n s152_92 rfl ?_
                refine w_getf s152_93 (hw 0 _ rfl) rfl ?_
                refine w_iload s152_96 rfl ?_
                refine w_ialdN (y := i) s152_98 (hw 27 _ rfl) (by omega) (by decide) ?_
                refine w_aload_n s152_99 rfl ?_
                refine w_getf s152_100 (hw 0 _ rfl) rfl ?_
                refine w_icmpeq s152_103 rfl  (fun c103 => ?_) (fun c103 => ?_)
                · skip
                  refine w_iconst (v := 0) s152_110 rfl ?_
                  refine w_istore_n s152_111 rfl ?_
                  show am_wp _ (_, [_, _, _, _, _], _) _ _
                  refine w_iinc s152_112 rfl (nI_inc (i)) rfl ?_
                  show am_wp _ (_, [_, _, _, _, _], _) _ _
                  refine w_goto s152_115 rfl ?_
                  refine am_wp_l (am_cons rfl (am_cons rfl (am_cons rfl (am_cons (am_si ?_) (am_cons rfl rfl))))) (ihi (by omega))
                  all_goals first | (clear ihi; simp [x_wd_s, x_cf, am_bi, *]; done) | (clear ihi; simp_all [x_wd_s, x_cf, am_bi]; done)
                · skip
                  refine w_iconst (v := 1) s152_106 rfl ?_
                  refine w_goto s152_107 rfl ?_
                  refine w_istore_n s152_111 rfl ?_
                  show am_wp _ (_, [_, _, _, _, _], _) _ _
                  refine w_iinc s152_112 rfl (nI_inc (i)) rfl ?_
                  show am_wp _ (_, [_, _, _, _, _], _) _ _
                  refine w_goto s152_115 rfl ?_
                  refine am_wp_l (am_cons rfl (am_cons rfl (am_cons rfl (am_cons (am_si ?_) (am_cons rfl rfl))))) (ihi (by omega))
                  all_goals first | (clear ihi; simp [x_wd_s, x_cf, am_bi, *]; done) | (clear ihi; simp_all [x_wd_s, x_cf, am_bi]; done)
    · skip
      refine w_aload_n s152_22 rfl ?_
      refine w_iload_n s152_23 rfl ?_
      refine w_iload_n s152_24 rfl ?_
      refine w_callV2r s152_25 (hw 0 _ rfl) ow138 mc152_138 rfl rfl (c138 hw n31 _ _) ?_
      refine w_aload_n s152_28 rfl ?_
      refine w_getf s152_29 (hw 0 _ rfl) rfl ?_
      refine w_iload_n s152_32 rfl ?_
      refine w_ialdN (y := j) s152_33 (hw 18 _ rfl) (by omega) (by decide) ?_
      refine w_icmpge s152_34 rfl  (fun c34 => ?_) (fun c34 => ?_)
      · skip
        refine w_iconst (v := 0) s152_41 rfl ?_
        refine w_istore_n s152_42 rfl ?_
        show am_wp _ (_, [_, _, _, _, _], _) _ _
        refine w_iconst (v := 0) s152_43 rfl ?_
        refine w_istore s152_44 rfl ?_
        show am_wp _ (_, [_, _, _, _, _], _) _ _
        refine am_wp_l (am_cons rfl (am_cons rfl (am_cons rfl (am_cons (am_si ?_) (am_cons rfl rfl))))) (am_lp (n := cc 31) (P := fun i => am_wp 152 (46, [_, _, _, some (.int (am_bi (x_w0 cc aa j q && !x_wd cc aa j q i))), some (.int (nI i))], []) h _) ?_ 0 (Nat.zero_le _))
        · simp [x_w0, x_wd_0, am_bi, *]
        intro i hi ihi
        show am_wp _ (_, [_, _, _, _, _], _) _ _
        refine w_iload s152_46 rfl ?_
        refine w_aload_n s152_48 rfl ?_
        refine w_getf s152_49 (hw 0 _ rfl) rfl ?_
        refine w_icmpgeN (x := i) (y := cc 31) s152_52 rfl (by omega) (by omega)  (fun c52 => ?_) (fun c52 => ?_)
        · skip
          have e : i = cc 31 := by omega
          subst e
          refine w_iload_n s152_118 rfl ?_
          refine w_ifeqB s152_119 rfl  (fun c119 => ?_) (fun c119 => ?_)
          · skip
            refine w_iconst (v := 0) s152_155 rfl ?_
            refine w_zret0 s152_156 rk152 ?_
            first | exact ⟨am_zz (by simp [x_wc, *]), rfl⟩ | exact ⟨am_zo (by simp [x_wc, *]), rfl⟩ | exact ⟨am_zo (by simp_all [x_wc]), rfl⟩
          · skip
            refine w_aload_n s152_122 rfl ?_
            refine w_getf s152_123 (hw 0 _ rfl) rfl ?_
            refine w_iload_n s152_126 rfl ?_
            refine w_ialdN (y := j) s152_127 (hw 15 _ rfl) (by omega) (by decide) ?_
            refine w_iconst (v := 1) s152_128 rfl ?_
            refine w_callS2r s152_129 mc152_136 rfl rfl (c136 _ _ _) ?_
            refine w_ifeqB s152_132 rfl  (fun c132 => ?_) (fun c132 => ?_)
            · skip
              refine w_iconst (v := 1) s152_151 rfl ?_
              refine w_goto s152_152 rfl ?_
              refine w_zret1 s152_156 rk152 ?_
              first | exact ⟨am_zz (by simp [x_wc, *]), rfl⟩ | exact ⟨am_zo (by simp [x_wc, *]), rfl⟩ | exact ⟨am_zo (by simp_all [x_wc]), rfl⟩
            · skip
              refine w_aload_n s152_135 rfl ?_
              refine w_iload_n s152_136 rfl ?_
              refine w_aload_n s152_137 rfl ?_
              refine w_getf s152_138 (hw 0 _ rfl) rfl ?_
              refine w_aload_n s152_141 rfl ?_
              refine w_getf s152_142 (hw 0 _ rfl) rfl ?_
              refine w_callV3r s152_145 (hw 0 _ rfl) ow115 mc152_115 rfl rfl (c115 hw iv _ _ _ (by assumption)) ?_
              refine w_ifeqB s152_148 rfl  (fun c148 => ?_) (fun c148 => ?_)
              · skip
                refine w_iconst (v := 0) s152_155 rfl ?_
                refine w_zret0 s152_156 rk152 ?_
                first | exact ⟨am_zz (by simp [x_wc, *]), rfl⟩ | exact ⟨am_zo (by simp [x_wc, *]), rfl⟩ | exact ⟨am_zo (by simp_all [x_wc]), rfl⟩
              · skip
                refine w_iconst (v := 1) s152_151 rfl ?_
                refine w_goto s152_152 rfl ?_
                refine w_zret1 s152_156 rk152 ?_
                first | exact ⟨am_zz (by simp [x_wc, *]), rfl⟩ | exact ⟨am_zo (by simp [x_wc, *]), rfl⟩ | exact ⟨am_zo (by simp_all [x_wc]), rfl⟩
        · skip
          refine w_iload_n s152_55 rfl ?_
          refine w_ifeqB s152_56 rfl  (fun c56 => ?_) (fun c56 => ?_)
          · skip
            refine w_iconst (v := 0) s152_110 rfl ?_
            refine w_istore_n s152_111 rfl ?_
            show am_wp _ (_, [_, _, _, _, _], _) _ _
            refine w_iinc s152_112 rfl (nI_inc (i)) rfl ?_
            show am_wp _ (_, [_, _, _, _, _], _) _ _
            refine w_goto s152_115 rfl ?_
            refine am_wp_l (am_cons rfl (am_cons rfl (am_cons rfl (am_cons (am_si ?_) (am_cons rfl rfl))))) (ihi (by omega))
            all_goals first | (clear ihi; simp [x_wd_s, x_cf, am_bi, *]; done) | (clear ihi; simp_all [x_wd_s, x_cf, am_bi]; done)
          · skip
            refine w_aload_n s152_59 rfl ?_
            refine w_getf s152_60 (hw 0 _ rfl) rfl ?_
            refine w_iload s152_63 rfl ?_
            refine w_ialdN (y := i) s152_65 (hw 29 _ rfl) (by omega) (by decide) ?_
            refine w_iconst (v := 1) s152_66 rfl ?_
            refine w_icmpne s152_67 rfl  (fun c67 => ?_) (fun c67 => ?_)
            · skip
              refine w_iconst (v := 1) s152_106 rfl ?_
              refine w_goto s152_107 rfl ?_
              refine w_istore_n s152_111 rfl ?_
              show am_wp _ (_, [_, _, _, _, _], _) _ _
              refine w_iinc s152_112 rfl (nI_inc (i)) rfl ?_
              show am_wp _ (_, [_, _, _, _, _], _) _ _
              refine w_goto s152_115 rfl ?_
              refine am_wp_l (am_cons rfl (am_cons rfl (am_cons rfl (am_cons (am_si ?_) (am_cons rfl rfl))))) (ihi (by omega))
              all_goals first | (clear ihi; simp [x_wd_s, x_cf, am_bi, *]; done) | (clear ihi; simp_all [x_wd_s, x_cf, am_bi]; done)
            · skip
              refine w_aload_n s152_70 rfl ?_
              refine w_getf s152_71 (hw 0 _ rfl) rfl ?_
              refine w_iload s152_74 rfl ?_
              refine w_ialdN (y := i) s152_76 (hw 24 _ rfl) (by omega) (by decide) ?_
              refine w_iload_n s152_77 rfl ?_
              refine w_icmpne s152_78 rfl  (fun c78 => ?_) (fun c78 => ?_)
              · skip
                refine w_iconst (v := 1) s152_106 rfl ?_
                refine w_goto s152_107 rfl ?_
                refine w_istore_n s152_111 rfl ?_
                show am_wp _ (_, [_, _, _, _, _], _) _ _
                refine w_iinc s152_112 rfl (nI_inc (i)) rfl ?_
                show am_wp _ (_, [_, _, _, _, _], _) _ _
                refine w_goto s152_115 rfl ?_
                refine am_wp_l (am_cons rfl (am_cons rfl (am_cons rfl (am_cons (am_si ?_) (am_cons rfl rfl))))) (ihi (by omega))
                all_goals first | (clear ihi; simp [x_wd_s, x_cf, am_bi, *]; done) | (clear ihi; simp_all [x_wd_s, x_cf, am_bi]; done)
              · skip
                refine w_aload_n s152_81 rfl ?_
                refine w_getf s152_82 (hw 0 _ rfl) rfl ?_
                refine w_iload s152_85 rfl ?_
                refine w_ialdN (y := i) s152_87 (hw 26 _ rfl) (by omega) (by decide) ?_
                refine w_iload_n s152_88 rfl ?_
                refine w_icmpne s152_89 rfl  (fun c89 => ?_) (fun c89 => ?_)
                · skip
                  refine w_iconst (v := 1) s152_106 rfl ?_
                  refine w_goto s152_107 rfl ?_
                  refine w_istore_n s152_111 rfl ?_
                  show am_wp _ (_, [_, _, _, _, _], _) _ _
                  refine w_iinc s152_112 rfl (nI_inc (i)) rfl ?_
                  show am_wp _ (_, [_, _, _, _, _], _) _ _
                  refine w_goto s152_115 rfl ?_
                  refine am_wp_l (am_cons rfl (am_cons rfl (am_cons rfl (am_cons (am_si ?_) (am_cons rfl rfl))))) (ihi (by omega))
                  all_goals first | (clear ihi; simp [x_wd_s, x_cf, am_bi, *]; done) | (clear ihi; simp_all [x_wd_s, x_cf, am_bi]; done)
                · skip
                  refine w_aload_n s152_92 rfl ?_
                  refine w_getf s152_93 (hw 0 _ rfl) rfl ?_
                  refine w_iload s152_96 rfl ?_
                  refine w_ialdN (y := i) s152_98 (hw 27 _ rfl) (by omega) (by decide) ?_
                  refine w_aload_n s152_99 rfl ?_
                  refine w_getf s152_100 (hw 0 _ rfl) rfl ?_
                  refine w_icmpeq s152_103 rfl  (fun c103 => ?_) (fun c103 => ?_)
                  · skip
                    refine w_iconst (v := 0) s152_110 rfl ?_
                    refine w_istore_n s152_111 rfl ?_
                    show am_wp _ (_, [_, _, _, _, _], _) _ _
                    refine w_iinc s152_112 rfl (nI_inc (i)) rfl ?_
                    show am_wp _ (_, [_, _, _, _, _], _) _ _
                    refine w_goto s152_115 rfl ?_
                    refine am_wp_l (am_cons rfl (am_cons rfl (am_cons rfl (am_cons (am_si ?_) (am_cons rfl rfl))))) (ihi (by omega))
                    all_goals first | (clear ihi; simp [x_wd_s, x_cf, am_bi, *]; done) | (clear ihi; simp_all [x_wd_s, x_cf, am_bi]; done)
                  · skip
                    refine w_iconst (v := 1) s152_106 rfl ?_
                    refine w_goto s152_107 rfl ?_
                    refine w_istore_n s152_111 rfl ?_
                    show am_wp _ (_, [_, _, _, _, _], _) _ _
                    refine w_iinc s152_112 rfl (nI_inc (i)) rfl ?_
                    show am_wp _ (_, [_, _, _, _, _], _) _ _
                    refine w_goto s152_115 rfl ?_
                    refine am_wp_l (am_cons rfl (am_cons rfl (am_cons rfl (am_cons (am_si ?_) (am_cons rfl rfl))))) (ihi (by omega))
                    all_goals first | (clear ihi; simp [x_wd_s, x_cf, am_bi, *]; done) | (clear ihi; simp_all [x_wd_s, x_cf, am_bi]; done)
      · skip
        refine w_iconst (v := 1) s152_37 rfl ?_
        refine w_goto s152_38 rfl ?_
        refine w_istore_n s152_42 rfl ?_
        show am_wp _ (_, [_, _, _, _, _], _) _ _
        refine w_iconst (v := 0) s152_43 rfl ?_
        refine w_istore s152_44 rfl ?_
        show am_wp _ (_, [_, _, _, _, _], _) _ _
        refine am_wp_l (am_cons rfl (am_cons rfl (am_cons rfl (am_cons (am_si ?_) (am_cons rfl rfl))))) (am_lp (n := cc 31) (P := fun i => am_wp 152 (46, [_, _, _, some (.int (am_bi (x_w0 cc aa j q && !x_wd cc aa j q i))), some (.int (nI i))], []) h _) ?_ 0 (Nat.zero_le _))
        · simp [x_w0, x_wd_0, am_bi, *]
        intro i hi ihi
        show am_wp _ (_, [_, _, _, _, _], _) _ _
        refine w_iload s152_46 rfl ?_
        refine w_aload_n s152_48 rfl ?_
        refine w_getf s152_49 (hw 0 _ rfl) rfl ?_
        refine w_icmpgeN (x := i) (y := cc 31) s152_52 rfl (by omega) (by omega)  (fun c52 => ?_) (fun c52 => ?_)
        · skip
          have e : i = cc 31 := by omega
          subst e
          refine w_iload_n s152_118 rfl ?_
          refine w_ifeqB s152_119 rfl  (fun c119 => ?_) (fun c119 => ?_)
          · skip
            refine w_iconst (v := 0) s152_155 rfl ?_
            refine w_zret0 s152_156 rk152 ?_
            first | exact ⟨am_zz (by simp [x_wc, *]), rfl⟩ | exact ⟨am_zo (by simp [x_wc, *]), rfl⟩ | exact ⟨am_zo (by simp_all [x_wc]), rfl⟩
          · skip
            refine w_aload_n s152_122 rfl ?_
            refine w_getf s152_123 (hw 0 _ rfl) rfl ?_
            refine w_iload_n s152_126 rfl ?_
            refine w_ialdN (y := j) s152_127 (hw 15 _ rfl) (by omega) (by decide) ?_
            refine w_iconst (v := 1) s152_128 rfl ?_
            refine w_callS2r s152_129 mc152_136 rfl rfl (c136 _ _ _) ?_
            refine w_ifeqB s152_132 rfl  (fun c132 => ?_) (fun c132 => ?_)
            · skip
              refine w_iconst (v := 1) s152_151 rfl ?_
              refine w_goto s152_152 rfl ?_
              refine w_zret1 s152_156 rk152 ?_
              first | exact ⟨am_zz (by simp [x_wc, *]), rfl⟩ | exact ⟨am_zo (by simp [x_wc, *]), rfl⟩ | exact ⟨am_zo (by simp_all [x_wc]), rfl⟩
            · skip
              refine w_aload_n s152_135 rfl ?_
              refine w_iload_n s152_136 rfl ?_
              refine w_aload_n s152_137 rfl ?_
              refine w_getf s152_138 (hw 0 _ rfl) rfl ?_
              refine w_aload_n s152_141 rfl ?_
              refine w_getf s152_142 (hw 0 _ rfl) rfl ?_
              refine w_callV3r s152_145 (hw 0 _ rfl) ow115 mc152_115 rfl rfl (c115 hw iv _ _ _ (by assumption)) ?_
              refine w_ifeqB s152_148 rfl  (fun c148 => ?_) (fun c148 => ?_)
              · skip
                refine w_iconst (v := 0) s152_155 rfl ?_
                refine w_zret0 s152_156 rk152 ?_
                first | exact ⟨am_zz (by simp [x_wc, *]), rfl⟩ | exact ⟨am_zo (by simp [x_wc, *]), rfl⟩ | exact ⟨am_zo (by simp_all [x_wc]), rfl⟩
              · skip
                refine w_iconst (v := 1) s152_151 rfl ?_
                refine w_goto s152_152 rfl ?_
                refine w_zret1 s152_156 rk152 ?_
                first | exact ⟨am_zz (by simp [x_wc, *]), rfl⟩ | exact ⟨am_zo (by simp [x_wc, *]), rfl⟩ | exact ⟨am_zo (by simp_all [x_wc]), rfl⟩
        · skip
          refine w_iload_n s152_55 rfl ?_
          refine w_ifeqB s152_56 rfl  (fun c56 => ?_) (fun c56 => ?_)
          · skip
            refine w_iconst (v := 0) s152_110 rfl ?_
            refine w_istore_n s152_111 rfl ?_
            show am_wp _ (_, [_, _, _, _, _], _) _ _
            refine w_iinc s152_112 rfl (nI_inc (i)) rfl ?_
            show am_wp _ (_, [_, _, _, _, _], _) _ _
            refine w_goto s152_115 rfl ?_
            refine am_wp_l (am_cons rfl (am_cons rfl (am_cons rfl (am_cons (am_si ?_) (am_cons rfl rfl))))) (ihi (by omega))
            all_goals first | (clear ihi; simp [x_wd_s, x_cf, am_bi, *]; done) | (clear ihi; simp_all [x_wd_s, x_cf, am_bi]; done)
          · skip
            refine w_aload_n s152_59 rfl ?_
            refine w_getf s152_60 (hw 0 _ rfl) rfl ?_
            refine w_iload s152_63 rfl ?_
            refine w_ialdN (y := i) s152_65 (hw 29 _ rfl) (by omega) (by decide) ?_
            refine w_iconst (v := 1) s152_66 rfl ?_
            refine w_icmpne s152_67 rfl  (fun c67 => ?_) (fun c67 => ?_)
            · skip
              refine w_iconst (v := 1) s152_106 rfl ?_
              refine w_goto s152_107 rfl ?_
              refine w_istore_n s152_111 rfl ?_
              show am_wp _ (_, [_, _, _, _, _], _) _ _
              refine w_iinc s152_112 rfl (nI_inc (i)) rfl ?_
              show am_wp _ (_, [_, _, _, _, _], _) _ _
              refine w_goto s152_115 rfl ?_
              refine am_wp_l (am_cons rfl (am_cons rfl (am_cons rfl (am_cons (am_si ?_) (am_cons rfl rfl))))) (ihi (by omega))
              all_goals first | (clear ihi; simp [x_wd_s, x_cf, am_bi, *]; done) | (clear ihi; simp_all [x_wd_s, x_cf, am_bi]; done)
            · skip
              refine w_aload_n s152_70 rfl ?_
              refine w_getf s152_71 (hw 0 _ rfl) rfl ?_
              refine w_iload s152_74 rfl ?_
              refine w_ialdN (y := i) s152_76 (hw 24 _ rfl) (by omega) (by decide) ?_
              refine w_iload_n s152_77 rfl ?_
              refine w_icmpne s152_78 rfl  (fun c78 => ?_) (fun c78 => ?_)
              · skip
                refine w_iconst (v := 1) s152_106 rfl ?_
                refine w_goto s152_107 rfl ?_
                refine w_istore_n s152_111 rfl ?_
                show am_wp _ (_, [_, _, _, _, _], _) _ _
                refine w_iinc s152_112 rfl (nI_inc (i)) rfl ?_
                show am_wp _ (_, [_, _, _, _, _], _) _ _
                refine w_goto s152_115 rfl ?_
                refine am_wp_l (am_cons rfl (am_cons rfl (am_cons rfl (am_cons (am_si ?_) (am_cons rfl rfl))))) (ihi (by omega))
                all_goals first | (clear ihi; simp [x_wd_s, x_cf, am_bi, *]; done) | (clear ihi; simp_all [x_wd_s, x_cf, am_bi]; done)
              · skip
                refine w_aload_n s152_81 rfl ?_
                refine w_getf s152_82 (hw 0 _ rfl) rfl ?_
                refine w_iload s152_85 rfl ?_
                refine w_ialdN (y := i) s152_87 (hw 26 _ rfl) (by omega) (by decide) ?_
                refine w_iload_n s152_88 rfl ?_
                refine w_icmpne s152_89 rfl  (fun c89 => ?_) (fun c89 => ?_)
                · skip
                  refine w_iconst (v := 1) s152_106 rfl ?_
                  refine w_goto s152_107 rfl ?_
                  refine w_istore_n s152_111 rfl ?_
                  show am_wp _ (_, [_, _, _, _, _], _) _ _
                  refine w_iinc s152_112 rfl (nI_inc (i)) rfl ?_
                  show am_wp _ (_, [_, _, _, _, _], _) _ _
                  refine w_goto s152_115 rfl ?_
                  refine am_wp_l (am_cons rfl (am_cons rfl (am_cons rfl (am_cons (am_si ?_) (am_cons rfl rfl))))) (ihi (by omega))
                  all_goals first | (clear ihi; simp [x_wd_s, x_cf, am_bi, *]; done) | (clear ihi; simp_all [x_wd_s, x_cf, am_bi]; done)
                · skip
                  refine w_aload_n s152_92 rfl ?_
                  refine w_getf s152_93 (hw 0 _ rfl) rfl ?_
                  refine w_iload s152_96 rfl ?_
                  refine w_ialdN (y := i) s152_98 (hw 27 _ rfl) (by omega) (by decide) ?_
                  refine w_aload_n s152_99 rfl ?_
                  refine w_getf s152_100 (hw 0 _ rfl) rfl ?_
                  refine w_icmpeq s152_103 rfl  (fun c103 => ?_) (fun c103 => ?_)
                  · skip
                    refine w_iconst (v := 0) s152_110 rfl ?_
                    refine w_istore_n s152_111 rfl ?_
                    show am_wp _ (_, [_, _, _, _, _], _) _ _
                    refine w_iinc s152_112 rfl (nI_inc (i)) rfl ?_
                    show am_wp _ (_, [_, _, _, _, _], _) _ _
                    refine w_goto s152_115 rfl ?_
                    refine am_wp_l (am_cons rfl (am_cons rfl (am_cons rfl (am_cons (am_si ?_) (am_cons rfl rfl))))) (ihi (by omega))
                    all_goals first | (clear ihi; simp [x_wd_s, x_cf, am_bi, *]; done) | (clear ihi; simp_all [x_wd_s, x_cf, am_bi]; done)
                  · skip
                    refine w_iconst (v := 1) s152_106 rfl ?_
                    refine w_goto s152_107 rfl ?_
                    refine w_istore_n s152_111 rfl ?_
                    show am_wp _ (_, [_, _, _, _, _], _) _ _
                    refine w_iinc s152_112 rfl (nI_inc (i)) rfl ?_
                    show am_wp _ (_, [_, _, _, _, _], _) _ _
                    refine w_goto s152_115 rfl ?_
                    refine am_wp_l (am_cons rfl (am_cons rfl (am_cons rfl (am_cons (am_si ?_) (am_cons rfl rfl))))) (ihi (by omega))
                    all_goals first | (clear ihi; simp [x_wd_s, x_cf, am_bi, *]; done) | (clear ihi; simp_all [x_wd_s, x_cf, am_bi]; done)
theorem c153 {h : am_H} {cc : Nat → Nat} {aa : Nat → Nat → Int32} (hw : MW h cc aa) (iv : IV cc aa) (c q m : Int32) (hq : x_ix (cc 3) q = true) : am_rd 153 [.ref 27, .int c, .int q, .int m] h (.int (am_bi (x_near cc aa c q m))) := by
  have n0 := iv.n0
  have n2 := iv.n2
  have n3 := iv.n3
  have n7 := iv.n7
  have n8 := iv.n8
  have n16 := iv.n16
  have n20 := iv.n20
  have n28 := iv.n28
  have n31 := iv.n31
  have n38 := iv.n38
  have n45 := iv.n45
  show am_wp _ (_, [_, _, _, _, _, _, _], _) _ _
  refine w_iconst (v := 0) s153_0 rfl ?_
  refine w_istore s153_1 rfl ?_
  show am_wp _ (_, [_, _, _, _, _, _, _], _) _ _
  refine w_iconst (v := 0) s153_3 rfl ?_
  refine w_istore s153_4 rfl ?_
  show am_wp _ (_, [_, _, _, _, _, _, _], _) _ _
  refine am_lp (n := cc 31) (P := fun i => ∀ v6 : Option Value, am_wp 153 (6, [_, _, _, _, some (.int (am_bi (x_any (x_nf cc aa c q m) i))), some (.int (nI i)), v6], []) h _) ?_ 0 (Nat.zero_le _) _
  intro i hi ihi v6
  show am_wp _ (_, [_, _, _, _, _, _, _], _) _ _
  refine w_iload s153_6 rfl ?_
  refine w_aload_n s153_8 rfl ?_
  refine w_getf s153_9 (hw 0 _ rfl) rfl ?_
  refine w_icmpgeN (x := i) (y := cc 31) s153_12 rfl (by omega) (by omega)  (fun c12 => ?_) (fun c12 => ?_)
  · skip
    have e : i = cc 31 := by omega
    subst e
    refine w_iload s153_117 rfl ?_
    refine w_zret s153_119 rk153 ?_
    exact ⟨rfl, rfl⟩
  · skip
    have hys := iv.ys i c12
    refine w_aload_n s153_15 rfl ?_
    refine w_getf s153_16 (hw 0 _ rfl) rfl ?_
    refine w_iload s153_19 rfl ?_
    refine w_ialdN (y := i) s153_21 (hw 28 _ rfl) (by omega) (by decide) ?_
    refine w_iload_n s153_22 rfl ?_
    refine w_icmple s153_23 rfl  (fun c23 => ?_) (fun c23 => ?_)
    · skip
      have had : x_ad (aa 36 i) m = m - aa 36 i := if_pos c23
      refine w_iload_n s153_38 rfl ?_
      refine w_aload_n s153_39 rfl ?_
      refine w_getf s153_40 (hw 0 _ rfl) rfl ?_
      refine w_iload s153_43 rfl ?_
      refine w_ialdN (y := i) s153_45 (hw 28 _ rfl) (by omega) (by decide) ?_
      refine w_isub s153_46 rfl ?_
      refine w_istore s153_47 rfl ?_
      show am_wp _ (_, [_, _, _, _, _, _, _], _) _ _
      refine w_iload s153_49 rfl ?_
      refine w_ifneB s153_51 rfl  (fun c51 => ?_) (fun c51 => ?_)
      · skip
        refine w_iconst (v := 1) s153_104 rfl ?_
        refine w_goto s153_105 rfl ?_
        refine w_istore s153_109 rfl ?_
        show am_wp _ (_, [_, _, _, _, _, _, _], _) _ _
        refine w_iinc s153_111 rfl (nI_inc (i)) rfl ?_
        show am_wp _ (_, [_, _, _, _, _, _, _], _) _ _
        refine w_goto s153_114 rfl ?_
        refine am_wp_l (am_cons rfl (am_cons rfl (am_cons rfl (am_cons rfl (am_cons (am_si ?_) (am_cons rfl (am_cons rfl rfl))))))) (ihi (by omega) _)
        all_goals first | (clear ihi; simp [x_any_s, x_nf, am_bi, *]; done) | (clear ihi; simp_all [x_any_s, x_nf, am_bi]; done)
      · skip
        refine w_aload_n s153_54 rfl ?_
        refine w_getf s153_55 (hw 0 _ rfl) rfl ?_
        refine w_iload s153_58 rfl ?_
        refine w_ialdN (y := i) s153_60 (hw 27 _ rfl) (by omega) (by decide) ?_
        refine w_aload_n s153_61 rfl ?_
        refine w_getf s153_62 (hw 0 _ rfl) rfl ?_
        refine w_icmpne s153_65 rfl  (fun c65 => ?_) (fun c65 => ?_)
        · skip
          refine w_iconst (v := 0) s153_108 rfl ?_
          refine w_istore s153_109 rfl ?_
          show am_wp _ (_, [_, _, _, _, _, _, _], _) _ _
          refine w_iinc s153_111 rfl (nI_inc (i)) rfl ?_
          show am_wp _ (_, [_, _, _, _, _, _, _], _) _ _
          refine w_goto s153_114 rfl ?_
          refine am_wp_l (am_cons rfl (am_cons rfl (am_cons rfl (am_cons rfl (am_cons (am_si ?_) (am_cons rfl (am_cons rfl rfl))))))) (ihi (by omega) _)
          all_goals first | (clear ihi; simp [x_any_s, x_nf, am_bi, *]; done) | (clear ihi; simp_all [x_any_s, x_nf, am_bi]; done)
        · skip
          refine w_aload_n s153_68 rfl ?_
          refine w_getf s153_69 (hw 0 _ rfl) rfl ?_
          refine w_iload s153_72 rfl ?_
          refine w_ialdN (y := i) s153_74 (hw 25 _ rfl) (by omega) (by decide) ?_
          refine w_iload_n s153_75 rfl ?_
          refine w_icmpeq s153_76 rfl  (fun c76 => ?_) (fun c76 => ?_)
          · skip
            refine w_iconst (v := 0) s153_108 rfl ?_
            refine w_istore s153_109 rfl ?_
            show am_wp _ (_, [_, _, _, _, _, _, _], _) _ _
            refine w_iinc s153_111 rfl (nI_inc (i)) rfl ?_
            show am_wp _ (_, [_, _, _, _, _, _, _], _) _ _
            refine w_goto s153_114 rfl ?_
            refine am_wp_l (am_cons rfl (am_cons rfl (am_cons rfl (am_cons rfl (am_cons (am_si ?_) (am_cons rfl (am_cons rfl rfl))))))) (ihi (by omega) _)
            all_goals first | (clear ihi; simp [x_any_s, x_nf, am_bi, *]; done) | (clear ihi; simp_all [x_any_s, x_nf, am_bi]; done)
          · skip
            refine w_iload s153_79 rfl ?_
            refine w_iconst (v := 5) s153_81 rfl ?_
            refine w_icmpge s153_82 rfl  (fun c82 => ?_) (fun c82 => ?_)
            · skip
              refine w_iconst (v := 0) s153_108 rfl ?_
              refine w_istore s153_109 rfl ?_
              show am_wp _ (_, [_, _, _, _, _, _, _], _) _ _
              refine w_iinc s153_111 rfl (nI_inc (i)) rfl ?_
              show am_wp _ (_, [_, _, _, _, _, _, _], _) _ _
              refine w_goto s153_114 rfl ?_
              refine am_wp_l (am_cons rfl (am_cons rfl (am_cons rfl (am_cons rfl (am_cons (am_si ?_) (am_cons rfl (am_cons rfl rfl))))))) (ihi (by omega) _)
              all_goals first | (clear ihi; simp [x_any_s, x_nf, am_bi, *]; done) | (clear ihi; simp_all [x_any_s, x_nf, am_bi]; done)
            · skip
              refine w_aload_n s153_85 rfl ?_
              refine w_aload_n s153_86 rfl ?_
              refine w_getf s153_87 (hw 0 _ rfl) rfl ?_
              refine w_iload s153_90 rfl ?_
              refine w_ialdN (y := i) s153_92 (hw 26 _ rfl) (by omega) (by decide) ?_
              refine w_iload_n s153_93 rfl ?_
              refine w_callV2r s153_94 (hw 0 _ rfl) ow109 mc153_109 rfl rfl (c109 hw n3 _ _ (by assumption) (by assumption)) ?_
              refine w_aload_n s153_97 rfl ?_
              refine w_getf s153_98 (hw 0 _ rfl) rfl ?_
              refine w_icmpgt s153_101 rfl  (fun c101 => ?_) (fun c101 => ?_)
              · skip
                refine w_iconst (v := 0) s153_108 rfl ?_
                refine w_istore s153_109 rfl ?_
                show am_wp _ (_, [_, _, _, _, _, _, _], _) _ _
                refine w_iinc s153_111 rfl (nI_inc (i)) rfl ?_
                show am_wp _ (_, [_, _, _, _, _, _, _], _) _ _
                refine w_goto s153_114 rfl ?_
                refine am_wp_l (am_cons rfl (am_cons rfl (am_cons rfl (am_cons rfl (am_cons (am_si ?_) (am_cons rfl (am_cons rfl rfl))))))) (ihi (by omega) _)
                all_goals first | (clear ihi; simp [x_any_s, x_nf, am_bi, *]; done) | (clear ihi; simp_all [x_any_s, x_nf, am_bi]; done)
              · skip
                refine w_iconst (v := 1) s153_104 rfl ?_
                refine w_goto s153_105 rfl ?_
                refine w_istore s153_109 rfl ?_
                show am_wp _ (_, [_, _, _, _, _, _, _], _) _ _
                refine w_iinc s153_111 rfl (nI_inc (i)) rfl ?_
                show am_wp _ (_, [_, _, _, _, _, _, _], _) _ _
                refine w_goto s153_114 rfl ?_
                refine am_wp_l (am_cons rfl (am_cons rfl (am_cons rfl (am_cons rfl (am_cons (am_si ?_) (am_cons rfl (am_cons rfl rfl))))))) (ihi (by omega) _)
                all_goals first | (clear ihi; simp [x_any_s, x_nf, am_bi, *]; done) | (clear ihi; simp_all [x_any_s, x_nf, am_bi]; done)
    · skip
      have had : x_ad (aa 36 i) m = aa 36 i - m := if_neg c23
      refine w_aload_n s153_26 rfl ?_
      refine w_getf s153_27 (hw 0 _ rfl) rfl ?_
      refine w_iload s153_30 rfl ?_
      refine w_ialdN (y := i) s153_32 (hw 28 _ rfl) (by omega) (by decide) ?_
      refine w_iload_n s153_33 rfl ?_
      refine w_isub s153_34 rfl ?_
      refine w_goto s153_35 rfl ?_
      refine w_istore s153_47 rfl ?_
      show am_wp _ (_, [_, _, _, _, _, _, _], _) _ _
      refine w_iload s153_49 rfl ?_
      refine w_ifneB s153_51 rfl  (fun c51 => ?_) (fun c51 => ?_)
      · skip
        refine w_iconst (v := 1) s153_104 rfl ?_
        refine w_goto s153_105 rfl ?_
        refine w_istore s153_109 rfl ?_
        show am_wp _ (_, [_, _, _, _, _, _, _], _) _ _
        refine w_iinc s153_111 rfl (nI_inc (i)) rfl ?_
        show am_wp _ (_, [_, _, _, _, _, _, _], _) _ _
        refine w_goto s153_114 rfl ?_
        refine am_wp_l (am_cons rfl (am_cons rfl (am_cons rfl (am_cons rfl (am_cons (am_si ?_) (am_cons rfl (am_cons rfl rfl))))))) (ihi (by omega) _)
        all_goals first | (clear ihi; simp [x_any_s, x_nf, am_bi, *]; done) | (clear ihi; simp_all [x_any_s, x_nf, am_bi]; done)
      · skip
        refine w_aload_n s153_54 rfl ?_
        refine w_getf s153_55 (hw 0 _ rfl) rfl ?_
        refine w_iload s153_58 rfl ?_
        refine w_ialdN (y := i) s153_60 (hw 27 _ rfl) (by omega) (by decide) ?_
        refine w_aload_n s153_61 rfl ?_
        refine w_getf s153_62 (hw 0 _ rfl) rfl ?_
        refine w_icmpne s153_65 rfl  (fun c65 => ?_) (fun c65 => ?_)
        · skip
          refine w_iconst (v := 0) s153_108 rfl ?_
          refine w_istore s153_109 rfl ?_
          show am_wp _ (_, [_, _, _, _, _, _, _], _) _ _
          refine w_iinc s153_111 rfl (nI_inc (i)) rfl ?_
          show am_wp _ (_, [_, _, _, _, _, _, _], _) _ _
          refine w_goto s153_114 rfl ?_
          refine am_wp_l (am_cons rfl (am_cons rfl (am_cons rfl (am_cons rfl (am_cons (am_si ?_) (am_cons rfl (am_cons rfl rfl))))))) (ihi (by omega) _)
          all_goals first | (clear ihi; simp [x_any_s, x_nf, am_bi, *]; done) | (clear ihi; simp_all [x_any_s, x_nf, am_bi]; done)
        · skip
          refine w_aload_n s153_68 rfl ?_
          refine w_getf s153_69 (hw 0 _ rfl) rfl ?_
          refine w_iload s153_72 rfl ?_
          refine w_ialdN (y := i) s153_74 (hw 25 _ rfl) (by omega) (by decide) ?_
          refine w_iload_n s153_75 rfl ?_
          refine w_icmpeq s153_76 rfl  (fun c76 => ?_) (fun c76 => ?_)
          · skip
            refine w_iconst (v := 0) s153_108 rfl ?_
            refine w_istore s153_109 rfl ?_
            show am_wp _ (_, [_, _, _, _, _, _, _], _) _ _
            refine w_iinc s153_111 rfl (nI_inc (i)) rfl ?_
            show am_wp _ (_, [_, _, _, _, _, _, _], _) _ _
            refine w_goto s153_114 rfl ?_
            refine am_wp_l (am_cons rfl (am_cons rfl (am_cons rfl (am_cons rfl (am_cons (am_si ?_) (am_cons rfl (am_cons rfl rfl))))))) (ihi (by omega) _)
            all_goals first | (clear ihi; simp [x_any_s, x_nf, am_bi, *]; done) | (clear ihi; simp_all [x_any_s, x_nf, am_bi]; done)
          · skip
            refine w_iload s153_79 rfl ?_
            refine w_iconst (v := 5) s153_81 rfl ?_
            refine w_icmpge s153_82 rfl  (fun c82 => ?_) (fun c82 => ?_)
            · skip
              refine w_iconst (v := 0) s153_108 rfl ?_
              refine w_istore s153_109 rfl ?_
              show am_wp _ (_, [_, _, _, _, _, _, _], _) _ _
              refine w_iinc s153_111 rfl (nI_inc (i)) rfl ?_
              show am_wp _ (_, [_, _, _, _, _, _, _], _) _ _
              refine w_goto s153_114 rfl ?_
              refine am_wp_l (am_cons rfl (am_cons rfl (am_cons rfl (am_cons rfl (am_cons (am_si ?_) (am_cons rfl (am_cons rfl rfl))))))) (ihi (by omega) _)
              all_goals first | (clear ihi; simp [x_any_s, x_nf, am_bi, *]; done) | (clear ihi; simp_all [x_any_s, x_nf, am_bi]; done)
            · skip
              refine w_aload_n s153_85 rfl ?_
              refine w_aload_n s153_86 rfl ?_
              refine w_getf s153_87 (hw 0 _ rfl) rfl ?_
              refine w_iload s153_90 rfl ?_
              refine w_ialdN (y := i) s153_92 (hw 26 _ rfl) (by omega) (by decide) ?_
              refine w_iload_n s153_93 rfl ?_
              refine w_callV2r s153_94 (hw 0 _ rfl) ow109 mc153_109 rfl rfl (c109 hw n3 _ _ (by assumption) (by assumption)) ?_
              refine w_aload_n s153_97 rfl ?_
              refine w_getf s153_98 (hw 0 _ rfl) rfl ?_
              refine w_icmpgt s153_101 rfl  (fun c101 => ?_) (fun c101 => ?_)
              · skip
                refine w_iconst (v := 0) s153_108 rfl ?_
                refine w_istore s153_109 rfl ?_
                show am_wp _ (_, [_, _, _, _, _, _, _], _) _ _
                refine w_iinc s153_111 rfl (nI_inc (i)) rfl ?_
                show am_wp _ (_, [_, _, _, _, _, _, _], _) _ _
                refine w_goto s153_114 rfl ?_
                refine am_wp_l (am_cons rfl (am_cons rfl (am_cons rfl (am_cons rfl (am_cons (am_si ?_) (am_cons rfl (am_cons rfl rfl))))))) (ihi (by omega) _)
                all_goals first | (clear ihi; simp [x_any_s, x_nf, am_bi, *]; done) | (clear ihi; simp_all [x_any_s, x_nf, am_bi]; done)
              · skip
                refine w_iconst (v := 1) s153_104 rfl ?_
                refine w_goto s153_105 rfl ?_
                refine w_istore s153_109 rfl ?_
                show am_wp _ (_, [_, _, _, _, _, _, _], _) _ _
                refine w_iinc s153_111 rfl (nI_inc (i)) rfl ?_
                show am_wp _ (_, [_, _, _, _, _, _, _], _) _ _
                refine w_goto s153_114 rfl ?_
                refine am_wp_l (am_cons rfl (am_cons rfl (am_cons rfl (am_cons rfl (am_cons (am_si ?_) (am_cons rfl (am_cons rfl rfl))))))) (ihi (by omega) _)
                all_goals first | (clear ihi; simp [x_any_s, x_nf, am_bi, *]; done) | (clear ihi; simp_all [x_any_s, x_nf, am_bi]; done)
theorem c154 {h : am_H} {cc : Nat → Nat} {aa : Nat → Nat → Int32} (hw : MW h cc aa) (iv : IV cc aa) (n c q m : Int32) : am_ev 154 [.ref 27, .int n, .int c, .int q, .int m] h (mQ h (S_cry cc aa n c q m)) := by
  have fr := mFr.rf h
  have n0 := iv.n0
  have n2 := iv.n2
  have n3 := iv.n3
  have n7 := iv.n7
  have n8 := iv.n8
  have n16 := iv.n16
  have n20 := iv.n20
  have n28 := iv.n28
  have n31 := iv.n31
  have n38 := iv.n38
  have n45 := iv.n45
  show am_wp _ (_, [_, _, _, _, _, _], _) _ _
  refine w_aload_n s154_0 rfl ?_
  refine w_iload_n s154_1 rfl ?_
  refine w_callV1r s154_2 (hw 0 _ rfl) ow135 mc154_135 rfl rfl (c135 hw iv _) ?_
  refine w_ifeqB s154_5 rfl  (fun c5 => ?_) (fun c5 => ?_)
  · skip
    refine w_iconst (v := (-1)) s154_36 rfl ?_
    refine w_iret s154_37 rk154 ?_
    exact mq_end (by simp [S_cry, *, am_bi] <;> first | rfl | exact ⟨rfl, rfl⟩ | exact ⟨rfl, rfl, rfl⟩) hw fr
  · skip
    obtain ⟨j, hj, rfl⟩ := x_ix_i c5
    have jcl := nI_clamp (show j < 2 ^ 31 by omega)
    refine w_aload_n s154_8 rfl ?_
    refine w_iload_n s154_9 rfl ?_
    refine w_callV1r s154_10 (hw 0 _ rfl) ow148 mc154_148 rfl rfl (c148 hw iv _) ?_
    refine w_ifeqB s154_13 rfl  (fun c13 => ?_) (fun c13 => ?_)
    · skip
      refine w_iconst (v := (-1)) s154_36 rfl ?_
      refine w_iret s154_37 rk154 ?_
      exact mq_end (by simp [S_cry, *, am_bi] <;> first | rfl | exact ⟨rfl, rfl⟩ | exact ⟨rfl, rfl, rfl⟩) hw fr
    · skip
      obtain ⟨c1, hc1, rfl⟩ := x_ix_i c13
      have c1cl := nI_clamp (show c1 < 2 ^ 31 by omega)
      refine w_aload_n s154_16 rfl ?_
      refine w_iload_n s154_17 rfl ?_
      refine w_callV1r s154_18 (hw 0 _ rfl) ow107 mc154_107 rfl rfl (c107 hw iv _) ?_
      refine w_ifeqB s154_21 rfl  (fun c21 => ?_) (fun c21 => ?_)
      · skip
        refine w_iconst (v := (-1)) s154_36 rfl ?_
        refine w_iret s154_37 rk154 ?_
        exact mq_end (by simp [S_cry, *, am_bi] <;> first | rfl | exact ⟨rfl, rfl⟩ | exact ⟨rfl, rfl, rfl⟩) hw fr
      · skip
        refine w_iload s154_24 rfl ?_
        refine w_iconst (v := 0) s154_26 rfl ?_
        refine w_sipush (v := 1439) s154_27 rfl ?_
        refine w_callS3r s154_30 mc154_103 rfl rfl (c103 _ _ _ _) ?_
        refine w_ifneB s154_33 rfl  (fun c33 => ?_) (fun c33 => ?_)
        · skip
          refine w_aload_n s154_38 rfl ?_
          refine w_getf s154_39 (hw 0 _ rfl) rfl ?_
          refine w_sipush (v := 400) s154_42 rfl ?_
          refine w_icmpneN (x := cc 31) (y := 400) s154_45 rfl (by omega) (by omega)  (fun c45 => ?_) (fun c45 => ?_)
          · skip
            refine w_iload s154_51 rfl ?_
            refine w_aload_n s154_53 rfl ?_
            refine w_iload_n s154_54 rfl ?_
            refine w_iload_n s154_55 rfl ?_
            refine w_callV2r s154_56 (hw 0 _ rfl) ow150 mc154_150 rfl rfl (c150 hw iv c1 (by omega) _ (by assumption)) ?_
            refine w_icmpge s154_59 rfl  (fun c59 => ?_) (fun c59 => ?_)
            · skip
              refine w_aload_n s154_65 rfl ?_
              refine w_iload_n s154_66 rfl ?_
              refine w_iload_n s154_67 rfl ?_
              refine w_iload s154_68 rfl ?_
              refine w_callV3r s154_70 (hw 0 _ rfl) ow153 mc154_153 rfl rfl (c153 hw iv _ _ _ (by assumption)) ?_
              refine w_ifeqB s154_73 rfl  (fun c73 => ?_) (fun c73 => ?_)
              · skip
                refine w_aload_n s154_79 rfl ?_
                refine w_iload_n s154_80 rfl ?_
                refine w_iload_n s154_81 rfl ?_
                refine w_callV2r s154_82 (hw 0 _ rfl) ow152 mc154_152 rfl rfl (c152 hw iv j (by omega) _ (by assumption)) ?_
                refine w_ifeqB s154_85 rfl  (fun c85 => ?_) (fun c85 => ?_)
                · skip
                  refine w_iconst (v := 0) s154_92 rfl ?_
                  refine w_istore s154_93 rfl ?_
                  show am_wp _ (_, [_, _, _, _, _, _], _) _ _
                  refine w_aload_n s154_95 rfl ?_
                  refine w_getf s154_96 (hw 0 _ rfl) rfl ?_
                  refine w_aload_n s154_99 rfl ?_
                  refine w_getf s154_100 (hw 0 _ rfl) rfl ?_
                  refine w_iload_n s154_103 rfl ?_
                  refine m_st32 (y := cc 31) s154_104 hw fr (by omega) (fun h hw fr => ?_)
                  refine w_aload_n s154_105 rfl ?_
                  refine w_getf s154_106 (hw 0 _ rfl) rfl ?_
                  refine w_aload_n s154_109 rfl ?_
                  refine w_getf s154_110 (hw 0 _ rfl) rfl ?_
                  refine w_iload_n s154_113 rfl ?_
                  refine m_st33 (y := cc 31) s154_114 hw fr (by omega) (fun h hw fr => ?_)
                  refine w_aload_n s154_115 rfl ?_
                  refine w_getf s154_116 (hw 0 _ rfl) rfl ?_
                  refine w_aload_n s154_119 rfl ?_
                  refine w_getf s154_120 (hw 0 _ rfl) rfl ?_
                  refine w_iload_n s154_123 rfl ?_
                  refine m_st34 (y := cc 31) s154_124 hw fr (by omega) (fun h hw fr => ?_)
                  refine w_aload_n s154_125 rfl ?_
                  refine w_getf s154_126 (hw 0 _ rfl) rfl ?_
                  refine w_aload_n s154_129 rfl ?_
                  refine w_getf s154_130 (hw 0 _ rfl) rfl ?_
                  refine w_aload_n s154_133 rfl ?_
                  refine w_getf s154_134 (hw 0 _ rfl) rfl ?_
                  refine m_st35 (y := cc 31) s154_137 hw fr (by omega) (fun h hw fr => ?_)
                  refine w_aload_n s154_138 rfl ?_
                  refine w_getf s154_139 (hw 0 _ rfl) rfl ?_
                  refine w_aload_n s154_142 rfl ?_
                  refine w_getf s154_143 (hw 0 _ rfl) rfl ?_
                  refine w_iload s154_146 rfl ?_
                  refine m_st36 (y := cc 31) s154_148 hw fr (by omega) (fun h hw fr => ?_)
                  refine w_aload_n s154_149 rfl ?_
                  refine w_getf s154_150 (hw 0 _ rfl) rfl ?_
                  refine w_aload_n s154_153 rfl ?_
                  refine w_getf s154_154 (hw 0 _ rfl) rfl ?_
                  refine w_iload s154_157 rfl ?_
                  refine m_st37 (y := cc 31) s154_159 hw fr (by omega) (fun h hw fr => ?_)
                  refine w_aload_n s154_160 rfl ?_
                  refine w_dup_r s154_161 ?_
                  refine w_getf s154_162 (hw 0 _ rfl) rfl ?_
                  refine w_iconst (v := 1) s154_165 rfl ?_
                  refine w_iaddN (x := cc 31) (y := 1) s154_166 ?_
                  refine m_pf31 (v := (cc 31 + 1)) s154_167 hw fr (fun h hw fr => ?_)
                  refine w_aload_n s154_170 rfl ?_
                  refine w_getf s154_171 (hw 0 _ rfl) rfl ?_
                  refine w_iload_n s154_174 rfl ?_
                  refine w_iload_n s154_175 rfl ?_
                  refine m_st29 (y := c1) s154_176 hw fr (by omega) (fun h hw fr => ?_)
                  refine w_aload_n s154_177 rfl ?_
                  refine w_getf s154_178 (hw 0 _ rfl) rfl ?_
                  refine w_iload_n s154_181 rfl ?_
                  refine w_iload s154_182 rfl ?_
                  refine w_aload_n s154_184 rfl ?_
                  refine w_getf s154_185 (hw 0 _ rfl) rfl ?_
                  refine w_iload_n s154_188 rfl ?_
                  refine w_ialdV (y := j) (v := aa 22 j) s154_189 (hw 16 _ rfl) (by omega) (by decide) rfl ?_
                  refine w_bipush (v := 9) s154_190 rfl ?_
                  refine w_iadd s154_192 rfl ?_
                  refine w_bipush (v := 10) s154_193 rfl ?_
                  refine w_idiv s154_195 (by decide) rfl ?_
                  refine w_iadd s154_196 rfl ?_
                  refine m_st30 (y := c1) s154_197 hw fr (by omega) (fun h hw fr => ?_)
                  refine w_iload s154_198 rfl ?_
                  refine w_iret s154_200 rk154 ?_
                  exact mq_end (by simp [S_cry, *, am_bi] <;> first | rfl | exact ⟨rfl, rfl⟩ | exact ⟨rfl, rfl, rfl⟩) hw fr
                · skip
                  refine w_iconst (v := 1) s154_88 rfl ?_
                  refine w_goto s154_89 rfl ?_
                  refine w_istore s154_93 rfl ?_
                  show am_wp _ (_, [_, _, _, _, _, _], _) _ _
                  refine w_aload_n s154_95 rfl ?_
                  refine w_getf s154_96 (hw 0 _ rfl) rfl ?_
                  refine w_aload_n s154_99 rfl ?_
                  refine w_getf s154_100 (hw 0 _ rfl) rfl ?_
                  refine w_iload_n s154_103 rfl ?_
                  refine m_st32 (y := cc 31) s154_104 hw fr (by omega) (fun h hw fr => ?_)
                  refine w_aload_n s154_105 rfl ?_
                  refine w_getf s154_106 (hw 0 _ rfl) rfl ?_
                  refine w_aload_n s154_109 rfl ?_
                  refine w_getf s154_110 (hw 0 _ rfl) rfl ?_
                  refine w_iload_n s154_113 rfl ?_
                  refine m_st33 (y := cc 31) s154_114 hw fr (by omega) (fun h hw fr => ?_)
                  refine w_aload_n s154_115 rfl ?_
                  refine w_getf s154_116 (hw 0 _ rfl) rfl ?_
                  refine w_aload_n s154_119 rfl ?_
                  refine w_getf s154_120 (hw 0 _ rfl) rfl ?_
                  refine w_iload_n s154_123 rfl ?_
                  refine m_st34 (y := cc 31) s154_124 hw fr (by omega) (fun h hw fr => ?_)
                  refine w_aload_n s154_125 rfl ?_
                  refine w_getf s154_126 (hw 0 _ rfl) rfl ?_
                  refine w_aload_n s154_129 rfl ?_
                  refine w_getf s154_130 (hw 0 _ rfl) rfl ?_
                  refine w_aload_n s154_133 rfl ?_
                  refine w_getf s154_134 (hw 0 _ rfl) rfl ?_
                  refine m_st35 (y := cc 31) s154_137 hw fr (by omega) (fun h hw fr => ?_)
                  refine w_aload_n s154_138 rfl ?_
                  refine w_getf s154_139 (hw 0 _ rfl) rfl ?_
                  refine w_aload_n s154_142 rfl ?_
                  refine w_getf s154_143 (hw 0 _ rfl) rfl ?_
                  refine w_iload s154_146 rfl ?_
                  refine m_st36 (y := cc 31) s154_148 hw fr (by omega) (fun h hw fr => ?_)
                  refine w_aload_n s154_149 rfl ?_
                  refine w_getf s154_150 (hw 0 _ rfl) rfl ?_
                  refine w_aload_n s154_153 rfl ?_
                  refine w_getf s154_154 (hw 0 _ rfl) rfl ?_
                  refine w_iload s154_157 rfl ?_
                  refine m_st37 (y := cc 31) s154_159 hw fr (by omega) (fun h hw fr => ?_)
                  refine w_aload_n s154_160 rfl ?_
                  refine w_dup_r s154_161 ?_
                  refine w_getf s154_162 (hw 0 _ rfl) rfl ?_
                  refine w_iconst (v := 1) s154_165 rfl ?_
                  refine w_iaddN (x := cc 31) (y := 1) s154_166 ?_
                  refine m_pf31 (v := (cc 31 + 1)) s154_167 hw fr (fun h hw fr => ?_)
                  refine w_aload_n s154_170 rfl ?_
                  refine w_getf s154_171 (hw 0 _ rfl) rfl ?_
                  refine w_iload_n s154_174 rfl ?_
                  refine w_iload_n s154_175 rfl ?_
                  refine m_st29 (y := c1) s154_176 hw fr (by omega) (fun h hw fr => ?_)
                  refine w_aload_n s154_177 rfl ?_
                  refine w_getf s154_178 (hw 0 _ rfl) rfl ?_
                  refine w_iload_n s154_181 rfl ?_
                  refine w_iload s154_182 rfl ?_
                  refine w_aload_n s154_184 rfl ?_
                  refine w_getf s154_185 (hw 0 _ rfl) rfl ?_
                  refine w_iload_n s154_188 rfl ?_
                  refine w_ialdV (y := j) (v := aa 22 j) s154_189 (hw 16 _ rfl) (by omega) (by decide) rfl ?_
                  refine w_bipush (v := 9) s154_190 rfl ?_
                  refine w_iadd s154_192 rfl ?_
                  refine w_bipush (v := 10) s154_193 rfl ?_
                  refine w_idiv s154_195 (by decide) rfl ?_
                  refine w_iadd s154_196 rfl ?_
                  refine m_st30 (y := c1) s154_197 hw fr (by omega) (fun h hw fr => ?_)
                  refine w_iload s154_198 rfl ?_
                  refine w_iret s154_200 rk154 ?_
                  exact mq_end (by simp [S_cry, *, am_bi] <;> first | rfl | exact ⟨rfl, rfl⟩ | exact ⟨rfl, rfl, rfl⟩) hw fr
              · skip
                refine w_bipush (v := (-5)) s154_76 rfl ?_
                refine w_iret s154_78 rk154 ?_
                exact mq_end (by simp [S_cry, *, am_bi] <;> first | rfl | exact ⟨rfl, rfl⟩ | exact ⟨rfl, rfl, rfl⟩) hw fr
            · skip
              refine w_bipush (v := (-4)) s154_62 rfl ?_
              refine w_iret s154_64 rk154 ?_
              exact mq_end (by simp [S_cry, *, am_bi] <;> first | rfl | exact ⟨rfl, rfl⟩ | exact ⟨rfl, rfl, rfl⟩) hw fr
          · skip
            refine w_bipush (v := (-2)) s154_48 rfl ?_
            refine w_iret s154_50 rk154 ?_
            exact mq_end (by simp [S_cry, *, am_bi] <;> first | rfl | exact ⟨rfl, rfl⟩ | exact ⟨rfl, rfl, rfl⟩) hw fr
        · skip
          refine w_iconst (v := (-1)) s154_36 rfl ?_
          refine w_iret s154_37 rk154 ?_
          exact mq_end (by simp [S_cry, *, am_bi] <;> first | rfl | exact ⟨rfl, rfl⟩ | exact ⟨rfl, rfl, rfl⟩) hw fr
theorem c155 {h : am_H} {cc : Nat → Nat} {aa : Nat → Nat → Int32} (hw : MW h cc aa) (iv : IV cc aa) (n q : Int32) : am_rd 155 [.ref 27, .int n, .int q] h (.int (x_cntA cc aa n q)) := by
  have n0 := iv.n0
  have n2 := iv.n2
  have n3 := iv.n3
  have n7 := iv.n7
  have n8 := iv.n8
  have n16 := iv.n16
  have n20 := iv.n20
  have n28 := iv.n28
  have n31 := iv.n31
  have n38 := iv.n38
  have n45 := iv.n45
  show am_wp _ (_, [_, _, _], _) _ _
  refine w_aload_n s155_0 rfl ?_
  refine w_iload_n s155_1 rfl ?_
  refine w_callV1r s155_2 (hw 0 _ rfl) ow135 mc155_135 rfl rfl (c135 hw iv _) ?_
  refine w_ifeqB s155_5 rfl  (fun c5 => ?_) (fun c5 => ?_)
  · skip
    refine w_iconst (v := (-1)) s155_25 rfl ?_
    refine w_iret s155_26 rk155 ?_
    exact ⟨by simp [x_cntA, *], rfl⟩
  · skip
    refine w_aload_n s155_8 rfl ?_
    refine w_iload_n s155_9 rfl ?_
    refine w_callV1r s155_10 (hw 0 _ rfl) ow107 mc155_107 rfl rfl (c107 hw iv _) ?_
    refine w_ifeqB s155_13 rfl  (fun c13 => ?_) (fun c13 => ?_)
    · skip
      refine w_iconst (v := (-1)) s155_25 rfl ?_
      refine w_iret s155_26 rk155 ?_
      exact ⟨by simp [x_cntA, *], rfl⟩
    · skip
      refine w_aload_n s155_16 rfl ?_
      refine w_iload_n s155_17 rfl ?_
      refine w_iload_n s155_18 rfl ?_
      refine w_callV2r s155_19 (hw 0 _ rfl) ow138 mc155_138 rfl rfl (c138 hw n31 _ _) ?_
      refine w_goto s155_22 rfl ?_
      refine w_iret s155_26 rk155 ?_
      exact ⟨by simp [x_cntA, *], rfl⟩
theorem c156 {h : am_H} {cc : Nat → Nat} {aa : Nat → Nat → Int32} (hw : MW h cc aa) (n31 : cc 31 ≤ 400) (i : Nat) (hi : i < cc 31) (w : Int32) : am_rd 156 [.ref 27, .int (nI i), .int w] h (.int (x_tc aa i w)) := by
  show am_wp _ (_, [_, _, _], _) _ _
  refine w_iload_n s156_0 rfl ?_
  rcases x_sw w 0 4 (by decide) (by decide) with hq | ⟨j1, hj1, hj2, hj3⟩
  · skip
    refine w_tswO s156_1 hq rfl ?_
    have d0 : ¬ w = 0 := fun e => by rw [e] at hq; revert hq; decide
    have d1 : ¬ w = 1 := fun e => by rw [e] at hq; revert hq; decide
    have d2 : ¬ w = 2 := fun e => by rw [e] at hq; revert hq; decide
    have d3 : ¬ w = 3 := fun e => by rw [e] at hq; revert hq; decide
    have d4 : ¬ w = 4 := fun e => by rw [e] at hq; revert hq; decide
    refine w_aload_n s156_71 rfl ?_
    refine w_getf s156_72 (hw 0 _ rfl) rfl ?_
    refine w_iload_n s156_75 rfl ?_
    refine w_ialdN (y := i) s156_76 (hw 29 _ rfl) (by omega) (by decide) ?_
    refine w_iret s156_77 rk156 ?_
    exact ⟨by simp [x_tc, *], rfl⟩
  · skip
    obtain (rfl | rfl | rfl | rfl | rfl) : j1 = 0 ∨ j1 = 1 ∨ j1 = 2 ∨ j1 = 3 ∨ j1 = 4 := by omega
    · skip
      have hj4 : w = 0 := hj3
      clear hj3
      subst hj4
      refine w_tswI (n := 0) s156_1 (by decide) rfl rfl rfl ?_
      refine w_aload_n s156_36 rfl ?_
      refine w_getf s156_37 (hw 0 _ rfl) rfl ?_
      refine w_iload_n s156_40 rfl ?_
      refine w_ialdN (y := i) s156_41 (hw 24 _ rfl) (by omega) (by decide) ?_
      refine w_iret s156_42 rk156 ?_
      exact ⟨by simp [x_tc, *], rfl⟩
    · skip
      have hj4 : w = 1 := hj3
      clear hj3
      subst hj4
      refine w_tswI (n := 1) s156_1 (by decide) rfl rfl rfl ?_
      refine w_aload_n s156_43 rfl ?_
      refine w_getf s156_44 (hw 0 _ rfl) rfl ?_
      refine w_iload_n s156_47 rfl ?_
      refine w_ialdN (y := i) s156_48 (hw 25 _ rfl) (by omega) (by decide) ?_
      refine w_iret s156_49 rk156 ?_
      exact ⟨by simp [x_tc, *], rfl⟩
    · skip
      have hj4 : w = 2 := hj3
      clear hj3
      subst hj4
      refine w_tswI (n := 2) s156_1 (by decide) rfl rfl rfl ?_
      refine w_aload_n s156_50 rfl ?_
      refine w_getf s156_51 (hw 0 _ rfl) rfl ?_
      refine w_iload_n s156_54 rfl ?_
      refine w_ialdN (y := i) s156_55 (hw 26 _ rfl) (by omega) (by decide) ?_
      refine w_iret s156_56 rk156 ?_
      exact ⟨by simp [x_tc, *], rfl⟩
    · skip
      have hj4 : w = 3 := hj3
      clear hj3
      subst hj4
      refine w_tswI (n := 3) s156_1 (by decide) rfl rfl rfl ?_
      refine w_aload_n s156_57 rfl ?_
      refine w_getf s156_58 (hw 0 _ rfl) rfl ?_
      refine w_iload_n s156_61 rfl ?_
      refine w_ialdN (y := i) s156_62 (hw 27 _ rfl) (by omega) (by decide) ?_
      refine w_iret s156_63 rk156 ?_
      exact ⟨by simp [x_tc, *], rfl⟩
    · skip
      have hj4 : w = 4 := hj3
      clear hj3
      subst hj4
      refine w_tswI (n := 4) s156_1 (by decide) rfl rfl rfl ?_
      refine w_aload_n s156_64 rfl ?_
      refine w_getf s156_65 (hw 0 _ rfl) rfl ?_
      refine w_iload_n s156_68 rfl ?_
      refine w_ialdN (y := i) s156_69 (hw 28 _ rfl) (by omega) (by decide) ?_
      refine w_iret s156_70 rk156 ?_
      exact ⟨by simp [x_tc, *], rfl⟩
theorem c157 {h : am_H} {cc : Nat → Nat} {aa : Nat → Nat → Int32} (hw : MW h cc aa) (iv : IV cc aa) (i w : Int32) : am_rd 157 [.ref 27, .int i, .int w] h (.int (x_ctold cc aa i w)) := by
  have n0 := iv.n0
  have n2 := iv.n2
  have n3 := iv.n3
  have n7 := iv.n7
  have n8 := iv.n8
  have n16 := iv.n16
  have n20 := iv.n20
  have n28 := iv.n28
  have n31 := iv.n31
  have n38 := iv.n38
  have n45 := iv.n45
  show am_wp _ (_, [_, _, _], _) _ _
  refine w_iload_n s157_0 rfl ?_
  refine w_iconst (v := 0) s157_1 rfl ?_
  refine w_iconst (v := 5) s157_2 rfl ?_
  refine w_callS3r s157_3 mc157_103 rfl rfl (c103 _ _ _ _) ?_
  refine w_ifneB s157_6 rfl  (fun c6 => ?_) (fun c6 => ?_)
  · skip
    refine w_iload_n s157_13 rfl ?_
    refine w_iconst (v := 0) s157_14 rfl ?_
    refine w_aload_n s157_15 rfl ?_
    refine w_getf s157_16 (hw 0 _ rfl) rfl ?_
    refine w_iconst (v := 1) s157_19 rfl ?_
    refine w_isub s157_20 rfl ?_
    refine w_callS3r s157_21 mc157_103 rfl rfl (c103 _ _ _ _) ?_
    rw [x_in_ix (show cc 31 < 2 ^ 31 by omega)]
    refine w_ifeqB s157_24 rfl  (fun c24 => ?_) (fun c24 => ?_)
    · skip
      refine w_bipush (v := (-9)) s157_36 rfl ?_
      refine w_iret s157_38 rk157 ?_
      exact ⟨by simp [x_ctold, *], rfl⟩
    · skip
      obtain ⟨k, hk, rfl⟩ := x_ix_i c24
      have kcl := nI_clamp (show k < 2 ^ 31 by omega)
      refine w_aload_n s157_27 rfl ?_
      refine w_iload_n s157_28 rfl ?_
      refine w_iload_n s157_29 rfl ?_
      refine w_callV2r s157_30 (hw 0 _ rfl) ow156 mc157_156 rfl rfl (c156 hw n31 k (by omega) _) ?_
      refine w_goto s157_33 rfl ?_
      refine w_iret s157_38 rk157 ?_
      exact ⟨by simp [x_ctold, *], rfl⟩
  · skip
    refine w_iconst (v := (-1)) s157_9 rfl ?_
    refine w_goto s157_10 rfl ?_
    refine w_iret s157_38 rk157 ?_
    exact ⟨by simp [x_ctold, *], rfl⟩
theorem c158 {h : am_H} {cc : Nat → Nat} {aa : Nat → Nat → Int32} (hw : MW h cc aa) (iv : IV cc aa) (q : Int32) : am_rd 158 [.ref 27, .int q] h (.int (x_due cc aa q)) := by
  have n0 := iv.n0
  have n2 := iv.n2
  have n3 := iv.n3
  have n7 := iv.n7
  have n8 := iv.n8
  have n16 := iv.n16
  have n20 := iv.n20
  have n28 := iv.n28
  have n31 := iv.n31
  have n38 := iv.n38
  have n45 := iv.n45
  show am_wp _ (_, [_, _, _, _], _) _ _
  refine w_aload_n s158_0 rfl ?_
  refine w_iload_n s158_1 rfl ?_
  refine w_callV1r s158_2 (hw 0 _ rfl) ow107 mc158_107 rfl rfl (c107 hw iv _) ?_
  refine w_ifneB s158_5 rfl  (fun c5 => ?_) (fun c5 => ?_)
  · skip
    refine w_iconst (v := 0) s158_10 rfl ?_
    refine w_istore_n s158_11 rfl ?_
    show am_wp _ (_, [_, _, _, _], _) _ _
    refine w_iconst (v := 0) s158_12 rfl ?_
    refine w_istore_n s158_13 rfl ?_
    show am_wp _ (_, [_, _, _, _], _) _ _
    refine am_lp (n := cc 20) (P := fun k => am_wp 158 (14, [_, _, some (.int (x_sum (fun k => am_bi (x_wc cc aa k q)) k)), some (.int (nI k))], []) h _) ?_ 0 (Nat.zero_le _)
    intro k hk ihk
    show am_wp _ (_, [_, _, _, _], _) _ _
    refine w_iload_n s158_14 rfl ?_
    refine w_aload_n s158_15 rfl ?_
    refine w_getf s158_16 (hw 0 _ rfl) rfl ?_
    refine w_icmpgeN (x := k) (y := cc 20) s158_19 rfl (by omega) (by omega)  (fun c19 => ?_) (fun c19 => ?_)
    · skip
      have e : k = cc 20 := by omega
      subst e
      refine w_iload_n s158_45 rfl ?_
      refine w_iret s158_46 rk158 ?_
      exact ⟨by simp [x_due, *], rfl⟩
    · skip
      refine w_iload_n s158_22 rfl ?_
      refine w_aload_n s158_23 rfl ?_
      refine w_iload_n s158_24 rfl ?_
      refine w_iload_n s158_25 rfl ?_
      refine w_callV2r s158_26 (hw 0 _ rfl) ow152 mc158_152 rfl rfl (c152 hw iv k (by omega) _ (by assumption)) ?_
      refine w_ifeqB s158_29 rfl  (fun c29 => ?_) (fun c29 => ?_)
      · skip
        refine w_iconst (v := 0) s158_36 rfl ?_
        refine w_iadd s158_37 rfl ?_
        refine w_istore_n s158_38 rfl ?_
        show am_wp _ (_, [_, _, _, _], _) _ _
        refine w_iinc s158_39 rfl (nI_inc (k)) rfl ?_
        show am_wp _ (_, [_, _, _, _], _) _ _
        refine w_goto s158_42 rfl ?_
        refine am_wp_l (am_cons rfl (am_cons rfl (am_cons (am_si ?_) (am_cons rfl rfl)))) (ihk (by omega))
        all_goals first | (clear ihk; simp [x_sum_s, am_bi, *]; done) | (clear ihk; simp_all [x_sum_s, am_bi]; done)
      · skip
        refine w_iconst (v := 1) s158_32 rfl ?_
        refine w_goto s158_33 rfl ?_
        refine w_iadd s158_37 rfl ?_
        refine w_istore_n s158_38 rfl ?_
        show am_wp _ (_, [_, _, _, _], _) _ _
        refine w_iinc s158_39 rfl (nI_inc (k)) rfl ?_
        show am_wp _ (_, [_, _, _, _], _) _ _
        refine w_goto s158_42 rfl ?_
        refine am_wp_l (am_cons rfl (am_cons rfl (am_cons (am_si ?_) (am_cons rfl rfl)))) (ihk (by omega))
        all_goals first | (clear ihk; simp [x_sum_s, am_bi, *]; done) | (clear ihk; simp_all [x_sum_s, am_bi]; done)
  · skip
    refine w_iconst (v := (-1)) s158_8 rfl ?_
    refine w_iret s158_9 rk158 ?_
    exact ⟨by simp [x_due, *], rfl⟩
theorem c159 {h : am_H} {cc : Nat → Nat} {aa : Nat → Nat → Int32} (hw : MW h cc aa) (iv : IV cc aa) (q i : Int32) : am_rd 159 [.ref 27, .int q, .int i] h (.int (x_dueAt cc aa q i)) := by
  have n0 := iv.n0
  have n2 := iv.n2
  have n3 := iv.n3
  have n7 := iv.n7
  have n8 := iv.n8
  have n16 := iv.n16
  have n20 := iv.n20
  have n28 := iv.n28
  have n31 := iv.n31
  have n38 := iv.n38
  have n45 := iv.n45
  by_cases ci : i < 0
  · skip
    have hn9 : x_nth (fun k => x_wc cc aa k q) (cc 20) i = -9 := x_first_f (x_nth_g ci (by omega))
    show am_wp _ (_, [_, _, _, _, _], _) _ _
    refine w_aload_n s159_0 rfl ?_
    refine w_iload_n s159_1 rfl ?_
    refine w_callV1r s159_2 (hw 0 _ rfl) ow107 mc159_107 rfl rfl (c107 hw iv _) ?_
    refine w_ifneB s159_5 rfl  (fun c5 => ?_) (fun c5 => ?_)
    · skip
      refine w_iload_n s159_10 rfl ?_
      refine w_istore_n s159_11 rfl ?_
      show am_wp _ (_, [_, _, _, _, _], _) _ _
      refine w_iconst (v := 0) s159_12 rfl ?_
      refine w_istore s159_13 rfl ?_
      show am_wp _ (_, [_, _, _, _, _], _) _ _
      skip
      refine w_iload s159_15 rfl ?_
      refine w_aload_n s159_17 rfl ?_
      refine w_getf s159_18 (hw 0 _ rfl) rfl ?_
      refine w_icmpgeN (x := 0) (y := cc 20) s159_21 rfl (by omega) (by omega)  (fun c21 => ?_) (fun c21 => ?_)
      · skip
        refine w_bipush (v := (-9)) s159_54 rfl ?_
        refine w_iret s159_56 rk159 ?_
        exact ⟨by simp [x_dueAt, *], rfl⟩
      · skip
        refine w_iload_n s159_24 rfl ?_
        refine w_iflt s159_25 rfl  (fun c25 => ?_) (fun c => False.elim (c ci))
        refine w_bipush (v := (-9)) s159_54 rfl ?_
        refine w_iret s159_56 rk159 ?_
        exact ⟨by simp [x_dueAt, *], rfl⟩
    · skip
      refine w_iconst (v := (-1)) s159_8 rfl ?_
      refine w_iret s159_9 rk159 ?_
      exact ⟨by simp [x_dueAt, *], rfl⟩
  · skip
    obtain ⟨a, ha, rfl⟩ := nI_of ci
    show am_wp _ (_, [_, _, _, _, _], _) _ _
    refine w_aload_n s159_0 rfl ?_
    refine w_iload_n s159_1 rfl ?_
    refine w_callV1r s159_2 (hw 0 _ rfl) ow107 mc159_107 rfl rfl (c107 hw iv _) ?_
    refine w_ifneB s159_5 rfl  (fun c5 => ?_) (fun c5 => ?_)
    · skip
      refine w_iload_n s159_10 rfl ?_
      refine w_istore_n s159_11 rfl ?_
      show am_wp _ (_, [_, _, _, _, _], _) _ _
      refine w_iconst (v := 0) s159_12 rfl ?_
      refine w_istore s159_13 rfl ?_
      show am_wp _ (_, [_, _, _, _, _], _) _ _
      refine am_lp (n := cc 20) (P := fun k => x_any (x_np (fun k => x_wc cc aa k q) (nI a)) k = false → x_ct (fun k => x_wc cc aa k q) k ≤ a → am_wp 159 (15, [_, _, _, some (.int (nI (a - x_ct (fun k => x_wc cc aa k q) k))), some (.int (nI k))], []) h _) ?_ 0 (Nat.zero_le _) rfl (Nat.zero_le _)
      intro k hk ihk hzk hca
      show am_wp _ (_, [_, _, _, _, _], _) _ _
      refine w_iload s159_15 rfl ?_
      refine w_aload_n s159_17 rfl ?_
      refine w_getf s159_18 (hw 0 _ rfl) rfl ?_
      refine w_icmpgeN (x := k) (y := cc 20) s159_21 rfl (by omega) (by omega)  (fun c21 => ?_) (fun c21 => ?_)
      · skip
        have e : k = cc 20 := by omega
        subst e
        have hn9 : x_nth (fun k => x_wc cc aa k q) (cc 20) (nI a) = -9 := x_first_f hzk
        refine w_bipush (v := (-9)) s159_54 rfl ?_
        refine w_iret s159_56 rk159 ?_
        exact ⟨by simp [x_dueAt, *], rfl⟩
      · skip
        have hct := x_ct_le (fun k => x_wc cc aa k q) k
        refine w_iload_n s159_24 rfl ?_
        refine w_iflt s159_25 rfl  (fun c => False.elim (nI_pos (by omega) c)) (fun c25 => ?_)
        refine w_aload_n s159_28 rfl ?_
        refine w_iload s159_29 rfl ?_
        refine w_iload_n s159_31 rfl ?_
        refine w_callV2r s159_32 (hw 0 _ rfl) ow152 mc159_152 rfl rfl (c152 hw iv k (by omega) _ (by assumption)) ?_
        refine w_ifeqB s159_35 rfl  (fun c35 => ?_) (fun c35 => ?_)
        · skip
          have hnp : x_np (fun k => x_wc cc aa k q) (nI a) k = false := by unfold x_np; simp [c35]
          have hcs : x_ct (fun k => x_wc cc aa k q) (k + 1) = x_ct (fun k => x_wc cc aa k q) k := by rw [x_ct_s]; simp [c35]
          refine w_iinc s159_48 rfl (nI_inc (k)) rfl ?_
          show am_wp _ (_, [_, _, _, _, _], _) _ _
          refine w_goto s159_51 rfl ?_
          have ew := ihk (by omega) (by rw [x_any_s, hzk, hnp]; rfl) (by omega)
          rw [hcs] at ew
          first | exact ew | (rw [← Nat.sub_sub] at ew; exact ew)
        · skip
          refine w_iload_n s159_38 rfl ?_
          refine w_ifneN (x := (a - x_ct (fun k => x_wc cc aa k q) k)) s159_39 rfl (by omega)  (fun c39 => ?_) (fun c39 => ?_)
          · skip
            have hnp : x_np (fun k => x_wc cc aa k q) (nI a) k = false := by unfold x_np; rw [decide_eq_false (fun e => c39 (by have := (nI_eq (by omega) (by omega)).mp e; omega)), Bool.and_false]
            have hcs : x_ct (fun k => x_wc cc aa k q) (k + 1) = x_ct (fun k => x_wc cc aa k q) k + 1 := by rw [x_ct_s]; simp [c35]
            refine w_iinc s159_45 rfl (show nI (a - x_ct (fun k => x_wc cc aa k q) k) + Int32.ofInt (-1) = nI (a - x_ct (fun k => x_wc cc aa k q) k - 1) from by rw [show a - x_ct (fun k => x_wc cc aa k q) k = (a - x_ct (fun k => x_wc cc aa k q) k - 1) + 1 by omega]; exact pk_m1 _) rfl ?_
            show am_wp _ (_, [_, _, _, _, _], _) _ _
            refine w_iinc s159_48 rfl (nI_inc (k)) rfl ?_
            show am_wp _ (_, [_, _, _, _, _], _) _ _
            refine w_goto s159_51 rfl ?_
            have ew := ihk (by omega) (by rw [x_any_s, hzk, hnp]; rfl) (by omega)
            rw [hcs] at ew
            first | exact ew | (rw [← Nat.sub_sub] at ew; exact ew)
          · skip
            have hnp : x_np (fun k => x_wc cc aa k q) (nI a) k = true := by unfold x_np; rw [decide_eq_true (show nI (x_ct (fun k => x_wc cc aa k q) k) = nI a by rw [show x_ct (fun k => x_wc cc aa k q) k = a by omega]), Bool.and_true]; exact c35
            have hnk : x_nth (fun k => x_wc cc aa k q) (cc 20) (nI a) = nI k := x_first_t hzk hnp _ (by omega)
            refine w_iload s159_42 rfl ?_
            refine w_iret s159_44 rk159 ?_
            exact ⟨by simp [x_dueAt, *], rfl⟩
    · skip
      refine w_iconst (v := (-1)) s159_8 rfl ?_
      refine w_iret s159_9 rk159 ?_
      exact ⟨by simp [x_dueAt, *], rfl⟩
