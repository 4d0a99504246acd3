/-! the reference: copying, barred pieces, rates, taking a notice -/
def x_put (f : Nat → Int32) (a n : Nat) (w : Nat → Int32) : Nat → Int32 := fun k => if a ≤ k ∧ k < a + n then w (k - a) else f k
theorem x_put_0 (f : Nat → Int32) (a : Nat) (w : Nat → Int32) : x_put f a 0 w = f := by
  funext k
  exact if_neg (by omega)
theorem x_put_s (f : Nat → Int32) (a n : Nat) (w : Nat → Int32) : upd (x_put f a n w) (a + n) (w n) = x_put f a (n + 1) w := by
  funext k
  by_cases e : k = a + n
  · subst e
    rw [pk_us]
    unfold x_put
    rw [if_pos (by omega), show a + n - a = n by omega]
  · rw [pk_un e]
    unfold x_put
    by_cases c : a ≤ k ∧ k < a + n
    · rw [if_pos c, if_pos (by omega)]
    · rw [if_neg c, if_neg (by omega)]
theorem x_put_i (f : Nat → Int32) {a n k : Nat} (w : Nat → Int32) (h : k < n) : x_put f a n w (a + k) = w k := by
  unfold x_put
  rw [if_pos (by omega), show a + k - a = k by omega]
theorem ua_c (aa : Nat → Nat → Int32) {p q : Nat} (f g : Nat → Int32) (h : p ≠ q) : ua (ua aa p f) q g = ua (ua aa q g) p f := by
  funext r
  unfold ua
  by_cases a : r = p
  · subst a
    rw [if_neg h, if_pos rfl, if_pos rfl]
  · rw [if_neg a, if_neg a]
theorem ua_3 (aa : Nat → Nat → Int32) {p q : Nat} (f f' g : Nat → Int32) (h : p ≠ q) : ua (ua (ua aa p f) q g) p f' = ua (ua aa p f') q g := by
  rw [ua_c aa f g h, ua_ua, ua_c aa f' g h]
theorem uc_uc (cc : Nat → Nat) (p v w : Nat) : uc (uc cc p v) p w = uc cc p w := by
  funext q
  unfold uc
  split <;> rfl
def x_fit (i n : Int32) (z : Nat) : Bool := decide (0 ≤ i.toInt ∧ i.toInt + n.toInt ≤ (z : Int))
theorem x_fit_n {a m z : Nat} (ha : a < 2 ^ 31) (hm : m < 2 ^ 31) : x_fit (nI a) (nI m) z = decide (a + m ≤ z) := by
  unfold x_fit
  apply decide_eq_decide.mpr
  rw [nI_toInt ha, nI_toInt hm]
  omega
theorem x_fit_g {i n : Int32} {z : Nat} (h : i < 0) : x_fit i n z = false := by
  apply decide_eq_false
  rw [Int32.lt_iff_toInt_lt] at h
  simp only [show (0 : Int32).toInt = 0 from rfl] at h
  omega
theorem x_lc {a m z : Nat} (ha : a < 2 ^ 31) (hm : m < 2 ^ 31) (hz : z ≤ 80) : (0 < lg_cmp ((nI a).toInt64 + (nI m).toInt64) (nI z).toInt64) ↔ z < a + m := by
  rw [nI_l ha, nI_l hm, nI_l (by omega), lN_add]
  have e : (lN (a + m) > lN z) ↔ z < a + m := by
    rw [gt_iff_lt, Int64.lt_iff_toInt_lt, show (lN z).toInt = (z : Int) from lg_ofNat_toInt (by omega), show (lN (a + m)).toInt = ((a + m : Nat) : Int) from lg_ofNat_toInt (by omega)]
    omega
  unfold lg_cmp
  by_cases c : lN (a + m) > lN z
  · rw [if_pos c]
    exact ⟨fun _ => e.mp c, fun _ => by decide⟩
  · rw [if_neg c]
    refine ⟨fun d => ?_, fun d => absurd (e.mpr d) c⟩
    split at d <;> exact absurd d (by decide)
theorem x_lcn {a m z : Nat} (ha : a < 2 ^ 31) (hm : m < 2 ^ 31) (hz : z ≤ 80) : (lg_cmp ((nI a).toInt64 + (nI m).toInt64) (nI z).toInt64 ≤ 0) ↔ a + m ≤ z := by
  rw [← Int32.not_lt, x_lc ha hm hz]
  omega
def S_copy (cc : Nat → Nat) (aa : Nat → Nat → Int32) (s i t j n : Int32) : x_A := if x_in s 0 3 = true ∧ x_in t 0 3 = true then (if 0 ≤ n then (if aa 13 (tn s) < 0 ∨ aa 13 (tn t) < 0 then S_meets cc aa 1 else if x_fit i n (tn (aa 13 (tn s))) = true ∧ x_fit j n (tn (aa 13 (tn t))) = true then (1, cc, ua (ua aa 15 (x_put (aa 15) 0 (tn n) (fun k => aa 14 (80 * tn s + tn i + k)))) 14 (x_put (aa 14) (80 * tn t + tn j) (tn n) (fun k => aa 14 (80 * tn s + tn i + k)))) else S_meets cc aa 2) else S_meets cc aa 5) else (-1, cc, aa)
theorem c122 {h : am_H} {cc : Nat → Nat} {aa : Nat → Nat → Int32} (hw : MW h cc aa) (iv : IV cc aa) (s i t j n : Int32) : am_ev 122 [.ref 27, .int s, .int i, .int t, .int j, .int n] h (mQ h (S_copy cc aa s i t j n)) := by
  have fr := mFr.rf h
  have n0 := iv.n0
  have n2 := iv.n2
  have n3 := iv.n3
  have n7 := iv.n7
  have n8 := iv.n8
  have n16 := iv.n16
  have n20 := iv.n20
  have n28 := iv.n28
  have n31 := iv.n31
  have n38 := iv.n38
  have n45 := iv.n45
  show am_wp _ (_, [_, _, _, _, _, _, _], _) _ _
  refine w_iload_n s122_0 rfl ?_
  refine w_callS1r s122_1 mc122_117 rfl rfl (c117 _ _) ?_
  refine w_ifeqB s122_4 rfl  (fun c4 => ?_) (fun c4 => ?_)
  · skip
    refine w_iconst (v := (-1)) s122_14 rfl ?_
    refine w_iret s122_15 rk122 ?_
    exact mq_end (by simp [S_copy, *] <;> first | rfl | exact ⟨rfl, rfl⟩ | exact ⟨rfl, rfl, rfl⟩) hw fr
  · skip
    obtain ⟨s1, hs1, rfl⟩ := x_in_n (b := 3) c4 (by decide)
    have s1cl := nI_clamp (show s1 < 2 ^ 31 by omega)
    refine w_iload_n s122_7 rfl ?_
    refine w_callS1r s122_8 mc122_117 rfl rfl (c117 _ _) ?_
    refine w_ifneB s122_11 rfl  (fun c11 => ?_) (fun c11 => ?_)
    · skip
      obtain ⟨t1, ht1, rfl⟩ := x_in_n (b := 3) c11 (by decide)
      have t1cl := nI_clamp (show t1 < 2 ^ 31 by omega)
      refine w_iload s122_16 rfl ?_
      refine w_ifge s122_18 rfl  (fun c18 => ?_) (fun c18 => ?_)
      · skip
        obtain ⟨m, hm, rfl⟩ := nI_of (Int32.not_lt.mpr c18)
        have mcl := nI_clamp (show m < 2 ^ 31 by omega)
        refine w_aload_n s122_27 rfl ?_
        refine w_getf s122_28 (hw 0 _ rfl) rfl ?_
        refine w_iload_n s122_31 rfl ?_
        refine w_ialdN (y := s1) s122_32 (hw 9 _ rfl) (by omega) (by decide) ?_
        refine w_iflt s122_33 rfl  (fun c33 => ?_) (fun c33 => ?_)
        · skip
          refine w_aload_n s122_45 rfl ?_
          refine w_iconst (v := 1) s122_46 rfl ?_
          refine w_callV1 s122_47 (hw 0 _ rfl) ow104 mc122_104 rfl rfl (c104 hw 1 (by decide)) ?_
          rintro v h ⟨rfl, hw, fr2⟩
          replace fr := fr.tr fr2
          clear fr2
          show am_wp _ (_, _, Value.int (-3) :: _) _ _
          refine w_iret s122_50 rk122 ?_
          exact mq_end (by simp [S_copy, *] <;> first | rfl | exact ⟨rfl, rfl⟩ | exact ⟨rfl, rfl, rfl⟩) hw fr
        · skip
          obtain ⟨z1, hz1, e1⟩ : ∃ z, z ≤ 80 ∧ aa 13 s1 = nI z := (iv.sz s1 (by omega)).resolve_left (fun e => c33 (by rw [e]; decide))
          have z1n : ¬ nI z1 < 0 := nI_pos (by omega)
          have z1c := nI_clamp (show z1 < 2 ^ 31 by omega)
          refine w_aload_n s122_36 rfl ?_
          refine w_getf s122_37 (hw 0 _ rfl) rfl ?_
          refine w_iload_n s122_40 rfl ?_
          refine w_ialdN (y := t1) s122_41 (hw 9 _ rfl) (by omega) (by decide) ?_
          refine w_ifge s122_42 rfl  (fun c42 => ?_) (fun c42 => ?_)
          · skip
            obtain ⟨z2, hz2, e2⟩ : ∃ z, z ≤ 80 ∧ aa 13 t1 = nI z := (iv.sz t1 (by omega)).resolve_left (fun e => Int32.not_lt.mpr c42 (by rw [e]; decide))
            have z2n : ¬ nI z2 < 0 := nI_pos (by omega)
            have z2c := nI_clamp (show z2 < 2 ^ 31 by omega)
            refine w_iload_n s122_51 rfl ?_
            refine w_iflt s122_52 rfl  (fun c52 => ?_) (fun c52 => ?_)
            · skip
              have hf1 : x_fit i (nI m) z1 = false := x_fit_g c52
              refine w_aload_n s122_95 rfl ?_
              refine w_iconst (v := 2) s122_96 rfl ?_
              refine w_callV1 s122_97 (hw 0 _ rfl) ow104 mc122_104 rfl rfl (c104 hw 2 (by decide)) ?_
              rintro v h ⟨rfl, hw, fr2⟩
              replace fr := fr.tr fr2
              clear fr2
              show am_wp _ (_, _, Value.int (-3) :: _) _ _
              refine w_iret s122_100 rk122 ?_
              exact mq_end (by simp [S_copy, *] <;> first | rfl | exact ⟨rfl, rfl⟩ | exact ⟨rfl, rfl, rfl⟩) hw fr
            · skip
              obtain ⟨a, ha, rfl⟩ := nI_of c52
              have acl := nI_clamp (show a < 2 ^ 31 by omega)
              refine w_iload s122_55 rfl ?_
              refine w_iflt s122_57 rfl  (fun c57 => ?_) (fun c57 => ?_)
              · skip
                have hf2 : x_fit j (nI m) z2 = false := x_fit_g c57
                refine w_aload_n s122_95 rfl ?_
                refine w_iconst (v := 2) s122_96 rfl ?_
                refine w_callV1 s122_97 (hw 0 _ rfl) ow104 mc122_104 rfl rfl (c104 hw 2 (by decide)) ?_
                rintro v h ⟨rfl, hw, fr2⟩
                replace fr := fr.tr fr2
                clear fr2
                show am_wp _ (_, _, Value.int (-3) :: _) _ _
                refine w_iret s122_100 rk122 ?_
                exact mq_end (by simp [S_copy, *] <;> first | rfl | exact ⟨rfl, rfl⟩ | exact ⟨rfl, rfl, rfl⟩) hw fr
              · skip
                obtain ⟨b, hb, rfl⟩ := nI_of c57
                have bcl := nI_clamp (show b < 2 ^ 31 by omega)
                refine w_iload_n s122_60 rfl ?_
                refine w_i2l s122_61 rfl ?_
                refine w_iload s122_62 rfl ?_
                refine w_i2l s122_64 rfl ?_
                refine w_ladd s122_65 rfl ?_
                refine w_aload_n s122_66 rfl ?_
                refine w_getf s122_67 (hw 0 _ rfl) rfl ?_
                refine w_iload_n s122_70 rfl ?_
                refine w_ialdV (y := s1) (v := nI z1) s122_71 (hw 9 _ rfl) (by omega) (by decide) e1 ?_
                refine w_i2l s122_72 rfl ?_
                refine w_lcmp s122_73 ?_
                refine w_ifgt s122_74 rfl  (fun c74 => ?_) (fun c74 => ?_)
                · skip
                  have hf1 : x_fit (nI a) (nI m) z1 = false := by rw [x_fit_n ha hm]; exact decide_eq_false (by have := (x_lc ha hm hz1).mp c74; omega)
                  refine w_aload_n s122_95 rfl ?_
                  refine w_iconst (v := 2) s122_96 rfl ?_
                  refine w_callV1 s122_97 (hw 0 _ rfl) ow104 mc122_104 rfl rfl (c104 hw 2 (by decide)) ?_
                  rintro v h ⟨rfl, hw, fr2⟩
                  replace fr := fr.tr fr2
                  clear fr2
                  show am_wp _ (_, _, Value.int (-3) :: _) _ _
                  refine w_iret s122_100 rk122 ?_
                  exact mq_end (by simp [S_copy, *] <;> first | rfl | exact ⟨rfl, rfl⟩ | exact ⟨rfl, rfl, rfl⟩) hw fr
                · skip
                  have hq1 : a + m ≤ z1 := by
                    rcases Nat.lt_or_ge z1 (a + m) with d | d
                    · exact absurd ((x_lc ha hm hz1).mpr d) c74
                    · exact d
                  have hf1 : x_fit (nI a) (nI m) z1 = true := by rw [x_fit_n ha hm]; exact decide_eq_true hq1
                  refine w_iload s122_77 rfl ?_
                  refine w_i2l s122_79 rfl ?_
                  refine w_iload s122_80 rfl ?_
                  refine w_i2l s122_82 rfl ?_
                  refine w_ladd s122_83 rfl ?_
                  refine w_aload_n s122_84 rfl ?_
                  refine w_getf s122_85 (hw 0 _ rfl) rfl ?_
                  refine w_iload_n s122_88 rfl ?_
                  refine w_ialdV (y := t1) (v := nI z2) s122_89 (hw 9 _ rfl) (by omega) (by decide) e2 ?_
                  refine w_i2l s122_90 rfl ?_
                  refine w_lcmp s122_91 ?_
                  refine w_ifle s122_92 rfl  (fun c92 => ?_) (fun c92 => ?_)
                  · skip
                    have hq2 : b + m ≤ z2 := (x_lcn hb hm hz2).mp c92
                    have hf2 : x_fit (nI b) (nI m) z2 = true := by rw [x_fit_n hb hm]; exact decide_eq_true hq2
                    refine w_iconst (v := 0) s122_101 rfl ?_
                    refine w_istore s122_102 rfl ?_
                    show am_wp _ (_, [_, _, _, _, _, _, _], _) _ _
                    refine am_lp (n := m) (P := fun k => ∀ h, MW h cc (ua aa 15 (x_put (aa 15) 0 k (fun k => aa 14 (80 * s1 + a + k)))) → mFr _ h → am_wp 122 (104, [_, _, _, _, _, _, some (.int (nI k))], []) h _) ?_ 0 (Nat.zero_le _) h (hw.cg rfl (by rw [x_put_0, ua_id])) fr
                    clear hw fr; try clear h
                    intro k hk ih h hw fr
                    show am_wp _ (_, [_, _, _, _, _, _, _], _) _ _
                    refine w_iload s122_104 rfl ?_
                    refine w_iload s122_106 rfl ?_
                    refine w_icmpgeN (x := k) (y := m) s122_108 rfl (by omega) (by omega)  (fun c108 => ?_) (fun c108 => ?_)
                    · skip
                      have e : k = m := by omega
                      subst e
                      refine w_iconst (v := 0) s122_138 rfl ?_
                      refine w_istore s122_139 rfl ?_
                      show am_wp _ (_, [_, _, _, _, _, _, _], _) _ _
                      refine am_lp (n := k) (P := fun l => ∀ h, MW h cc (ua (ua aa 15 (x_put (aa 15) 0 k (fun k => aa 14 (80 * s1 + a + k)))) 14 (x_put (aa 14) (80 * t1 + b) l (fun k => aa 14 (80 * s1 + a + k)))) → mFr _ h → am_wp 122 (141, [_, _, _, _, _, _, some (.int (nI l))], []) h _) ?_ 0 (Nat.zero_le _) h (hw.cg rfl (by rw [x_put_0]; exact (ua_id _ 14).symm)) fr
                      clear hw fr ih; try clear h
                      intro l hl ih h hw fr
                      show am_wp _ (_, [_, _, _, _, _, _, _], _) _ _
                      refine w_iload s122_141 rfl ?_
                      refine w_iload s122_143 rfl ?_
                      refine w_icmpgeN (x := l) (y := k) s122_145 rfl (by omega) (by omega)  (fun c145 => ?_) (fun c145 => ?_)
                      · skip
                        have e : l = k := by omega
                        subst e
                        refine w_iconst (v := 1) s122_176 rfl ?_
                        refine w_iret s122_177 rk122 ?_
                        exact mq_end (by simp [S_copy, *] <;> first | rfl | exact ⟨rfl, rfl⟩ | exact ⟨rfl, rfl, rfl⟩) hw fr
                      · skip
                        refine w_aload_n s122_148 rfl ?_
                        refine w_getf s122_149 (hw 0 _ rfl) rfl ?_
                        refine w_bipush (v := 80) s122_152 rfl ?_
                        refine w_iload_n s122_154 rfl ?_
                        refine w_imulN (x := 80) (y := t1) s122_155 ?_
                        refine w_iload s122_156 rfl ?_
                        refine w_iaddN (x := (80 * t1)) (y := b) s122_158 ?_
                        refine w_iload s122_159 rfl ?_
                        refine w_iaddN (x := ((80 * t1) + b)) (y := l) s122_161 ?_
                        refine w_aload_n s122_162 rfl ?_
                        refine w_getf s122_163 (hw 0 _ rfl) rfl ?_
                        refine w_iload s122_166 rfl ?_
                        refine w_ialdV (y := l) (v := aa 14 (80 * s1 + a + l)) s122_168 (hw 11 _ rfl) (by omega) (by decide) (by show x_put (aa 15) 0 k (fun k => aa 14 (80 * s1 + a + k)) l = _; have := x_put_i (aa 15) (a := 0) (n := k) (k := l) (fun k => aa 14 (80 * s1 + a + k)) (by omega); rw [Nat.zero_add] at this; exact this) ?_
                        refine m_st14 (y := (((80 * t1) + b) + l)) s122_169 hw fr (by omega) (fun h hw fr => ?_)
                        refine w_iinc s122_170 rfl (nI_inc (l)) rfl ?_
                        show am_wp _ (_, [_, _, _, _, _, _, _], _) _ _
                        refine w_goto s122_173 rfl ?_
                        exact ih (by omega) h (hw.cg rfl (by rw [ua_s, ua_ua, ← x_put_s])) fr
                    · skip
                      refine w_aload_n s122_111 rfl ?_
                      refine w_getf s122_112 (hw 0 _ rfl) rfl ?_
                      refine w_iload s122_115 rfl ?_
                      refine w_aload_n s122_117 rfl ?_
                      refine w_getf s122_118 (hw 0 _ rfl) rfl ?_
                      refine w_bipush (v := 80) s122_121 rfl ?_
                      refine w_iload_n s122_123 rfl ?_
                      refine w_imulN (x := 80) (y := s1) s122_124 ?_
                      refine w_iload_n s122_125 rfl ?_
                      refine w_iaddN (x := (80 * s1)) (y := a) s122_126 ?_
                      refine w_iload s122_127 rfl ?_
                      refine w_iaddN (x := ((80 * s1) + a)) (y := k) s122_129 ?_
                      refine w_ialdV (y := (((80 * s1) + a) + k)) (v := aa 14 (80 * s1 + a + k)) s122_130 (hw 10 _ rfl) (by omega) (by decide) rfl ?_
                      refine m_st15 (y := k) s122_131 hw fr (by omega) (fun h hw fr => ?_)
                      refine w_iinc s122_132 rfl (nI_inc (k)) rfl ?_
                      show am_wp _ (_, [_, _, _, _, _, _, _], _) _ _
                      refine w_goto s122_135 rfl ?_
                      exact ih (by omega) h (hw.cg rfl (by rw [ua_s, ua_ua, ← x_put_s, Nat.zero_add])) fr
                  · skip
                    have hf2 : x_fit (nI b) (nI m) z2 = false := by rw [x_fit_n hb hm]; exact decide_eq_false (fun d => c92 ((x_lcn hb hm hz2).mpr d))
                    refine w_aload_n s122_95 rfl ?_
                    refine w_iconst (v := 2) s122_96 rfl ?_
                    refine w_callV1 s122_97 (hw 0 _ rfl) ow104 mc122_104 rfl rfl (c104 hw 2 (by decide)) ?_
                    rintro v h ⟨rfl, hw, fr2⟩
                    replace fr := fr.tr fr2
                    clear fr2
                    show am_wp _ (_, _, Value.int (-3) :: _) _ _
                    refine w_iret s122_100 rk122 ?_
                    exact mq_end (by simp [S_copy, *] <;> first | rfl | exact ⟨rfl, rfl⟩ | exact ⟨rfl, rfl, rfl⟩) hw fr
          · skip
            have c42b : aa 13 t1 < 0 := Int32.not_le.mp c42
            refine w_aload_n s122_45 rfl ?_
            refine w_iconst (v := 1) s122_46 rfl ?_
            refine w_callV1 s122_47 (hw 0 _ rfl) ow104 mc122_104 rfl rfl (c104 hw 1 (by decide)) ?_
            rintro v h ⟨rfl, hw, fr2⟩
            replace fr := fr.tr fr2
            clear fr2
            show am_wp _ (_, _, Value.int (-3) :: _) _ _
            refine w_iret s122_50 rk122 ?_
            exact mq_end (by simp [S_copy, *] <;> first | rfl | exact ⟨rfl, rfl⟩ | exact ⟨rfl, rfl, rfl⟩) hw fr
      · skip
        refine w_aload_n s122_21 rfl ?_
        refine w_iconst (v := 5) s122_22 rfl ?_
        refine w_callV1 s122_23 (hw 0 _ rfl) ow104 mc122_104 rfl rfl (c104 hw 5 (by decide)) ?_
        rintro v h ⟨rfl, hw, fr2⟩
        replace fr := fr.tr fr2
        clear fr2
        show am_wp _ (_, _, Value.int (-3) :: _) _ _
        refine w_iret s122_26 rk122 ?_
        exact mq_end (by simp [S_copy, *] <;> first | rfl | exact ⟨rfl, rfl⟩ | exact ⟨rfl, rfl, rfl⟩) hw fr
    · skip
      refine w_iconst (v := (-1)) s122_14 rfl ?_
      refine w_iret s122_15 rk122 ?_
      exact mq_end (by simp [S_copy, *] <;> first | rfl | exact ⟨rfl, rfl⟩ | exact ⟨rfl, rfl, rfl⟩) hw fr
theorem x_sg_c {aa aa' : Nat → Nat → Int32} (e1 : aa' 13 = aa 13) (e2 : aa' 14 = aa 14) (s k : Nat) : x_sg aa' s k = x_sg aa s k := by
  unfold x_sg
  rw [e1, e2]
theorem x_sf_c {aa aa' : Nat → Nat → Int32} (e1 : aa' 13 = aa 13) (e2 : aa' 14 = aa 14) (s : Nat) : x_sf aa' s = x_sf aa s := by
  funext k
  unfold x_sf
  rw [x_sg_c e1 e2]
theorem x_pc_c {aa aa' : Nat → Nat → Int32} (e1 : aa' 13 = aa 13) (e2 : aa' 14 = aa 14) (s i : Nat) : x_pc aa' s i = x_pc aa s i := by
  unfold x_pc x_pl
  rw [x_sf_c e1 e2]
theorem x_pc_r {aa aa' : Nat → Nat → Int32} {s i : Nat} {as : List Value} {h : am_H} (e1 : aa' 13 = aa 13) (e2 : aa' 14 = aa 14) (w : am_rd 127 as h (.int (nI (x_pc aa' s i)))) : am_rd 127 as h (.int (nI (x_pc aa s i))) := by
  rw [x_pc_c e1 e2] at w
  exact w
theorem x_sg_r {aa aa' : Nat → Nat → Int32} {s i : Nat} {as : List Value} {h : am_H} (e1 : aa' 13 = aa 13) (e2 : aa' 14 = aa 14) (w : am_rd 126 as h (.int (x_sg aa' s i))) : am_rd 126 as h (.int (x_sg aa s i)) := by
  rw [x_sg_c e1 e2] at w
  exact w
/-- barred pieces: how many, their lengths, their signs -/
def x_bs (aa : Nat → Nat → Int32) (s i : Nat) (t : Nat × (Nat → Int32) × (Nat → Int32)) : Nat × (Nat → Int32) × (Nat → Int32) := if 0 < x_pc aa s i ∧ x_pc aa s i ≤ 12 ∧ t.1 < 16 then (t.1 + 1, upd t.2.1 t.1 (nI (x_pc aa s i)), x_put t.2.2 (12 * t.1) (x_pc aa s i) (fun k => x_small (x_sg aa s (i + k)))) else t
def x_bt (aa : Nat → Nat → Int32) (s : Nat) : Nat → Nat × (Nat → Int32) × (Nat → Int32) := x_it (x_bs aa s) (0, aa 17, aa 18)
theorem x_bt_s (aa : Nat → Nat → Int32) (s i : Nat) : x_bt aa s (i + 1) = x_bs aa s i (x_bt aa s i) := rfl
theorem x_bt_le (aa : Nat → Nat → Int32) (s : Nat) : ∀ i, (x_bt aa s i).1 ≤ 16
  | 0 => Nat.zero_le _
  | i + 1 => by
    have ih := x_bt_le aa s i
    rw [x_bt_s]
    unfold x_bs
    split
    · show (x_bt aa s i).1 + 1 ≤ 16
      omega
    · exact ih
def S_bar (cc : Nat → Nat) (aa : Nat → Nat → Int32) (s : Int32) : x_A := if x_in s 0 3 = true then (if aa 13 (tn s) < 0 then S_meets cc aa 1 else (nI (x_bt aa (tn s) (tn (aa 13 (tn s)))).1, uc cc 16 (x_bt aa (tn s) (tn (aa 13 (tn s)))).1, ua (ua aa 17 (x_bt aa (tn s) (tn (aa 13 (tn s)))).2.1) 18 (x_bt aa (tn s) (tn (aa 13 (tn s)))).2.2)) else (-1, cc, aa)
theorem x_pc_le (aa : Nat → Nat → Int32) (s i : Nat) : x_pc aa s i ≤ 81 := by
  unfold x_pc
  split
  · exact Nat.zero_le _
  · exact x_rl_le _ _ _
theorem c130 {h : am_H} {cc : Nat → Nat} {aa : Nat → Nat → Int32} (hw : MW h cc aa) (iv : IV cc aa) (s : Int32) : am_ev 130 [.ref 27, .int s] h (mQ h (S_bar cc aa s)) := by
  have fr := mFr.rf h
  have n0 := iv.n0
  have n2 := iv.n2
  have n3 := iv.n3
  have n7 := iv.n7
  have n8 := iv.n8
  have n16 := iv.n16
  have n20 := iv.n20
  have n28 := iv.n28
  have n31 := iv.n31
  have n38 := iv.n38
  have n45 := iv.n45
  rcases x_lk s aa with cs | ⟨j, hj, rfl, cz⟩ | ⟨j, hj, rfl, cz⟩
  · skip
    skip
    show am_wp _ (_, [_, _, _, _, _, _], _) _ _
    refine w_aload_n s130_0 rfl ?_
    refine w_iload_n s130_1 rfl ?_
    refine w_callV1r s130_2 (hw 0 _ rfl) ow118 mc130_118 rfl rfl (c118a hw _ cs) ?_
    refine w_istore_n s130_5 rfl ?_
    show am_wp _ (_, [_, _, _, _, _, _], _) _ _
    refine w_iload_n s130_6 rfl ?_
    refine w_ifge s130_7 rfl  (fun c => absurd c (by decide)) (fun c7 => ?_)
    refine w_iload_n s130_10 rfl ?_
    refine w_iret s130_11 rk130 ?_
    exact mq_end (by simp [S_bar, *] <;> first | rfl | exact ⟨rfl, rfl⟩ | exact ⟨rfl, rfl, rfl⟩) hw fr
  · skip
    have cs := x_in3 hj
    have hj2 := nI_clamp (show j < 2 ^ 31 by omega)
    show am_wp _ (_, [_, _, _, _, _, _], _) _ _
    refine w_aload_n s130_0 rfl ?_
    refine w_iload_n s130_1 rfl ?_
    refine w_callV1 s130_2 (hw 0 _ rfl) ow118 mc130_118 rfl rfl (c118b hw j hj cz) ?_
    rintro v h ⟨rfl, hw, fr2⟩
    replace fr := fr.tr fr2
    clear fr2
    show am_wp _ (_, _, Value.int (-3) :: _) _ _
    refine w_istore_n s130_5 rfl ?_
    show am_wp _ (_, [_, _, _, _, _, _], _) _ _
    refine w_iload_n s130_6 rfl ?_
    refine w_ifge s130_7 rfl  (fun c => absurd c (by decide)) (fun c7 => ?_)
    refine w_iload_n s130_10 rfl ?_
    refine w_iret s130_11 rk130 ?_
    exact mq_end (by simp [S_bar, *] <;> first | rfl | exact ⟨rfl, rfl⟩ | exact ⟨rfl, rfl, rfl⟩) hw fr
  · skip
    have cs := x_in3 hj
    have hj2 := nI_clamp (show j < 2 ^ 31 by omega)
    obtain ⟨z, hz, ez⟩ : ∃ z, z ≤ 80 ∧ aa 13 j = nI z := (iv.sz j hj).resolve_left (fun e => cz (by rw [e]; decide))
    have hz2 := nI_clamp (show z < 2 ^ 31 by omega)
    have cz2 : ¬ nI z < 0 := nI_pos (by omega)
    show am_wp _ (_, [_, _, _, _, _, _], _) _ _
    refine w_aload_n s130_0 rfl ?_
    refine w_iload_n s130_1 rfl ?_
    refine w_callV1r s130_2 (hw 0 _ rfl) ow118 mc130_118 rfl rfl (c118c hw j hj cz) ?_
    refine w_istore_n s130_5 rfl ?_
    show am_wp _ (_, [_, _, _, _, _, _], _) _ _
    refine w_iload_n s130_6 rfl ?_
    refine w_ifge s130_7 rfl  (fun c7 => ?_) (fun c => absurd c (by decide))
    refine w_aload_n s130_12 rfl ?_
    refine w_iconst (v := 0) s130_13 rfl ?_
    refine m_pf16 (v := 0) s130_14 hw fr (fun h hw fr => ?_)
    refine w_iconst (v := 0) s130_17 rfl ?_
    refine w_istore_n s130_18 rfl ?_
    show am_wp _ (_, [_, _, _, _, _, _], _) _ _
    refine am_lp (n := z) (P := fun i => ∀ h v4 v5, MW h (uc cc 16 (x_bt aa j i).1) (ua (ua aa 17 (x_bt aa j i).2.1) 18 (x_bt aa j i).2.2) → mFr _ h → am_wp 130 (19, [_, _, _, some (.int (nI i)), v4, v5], []) h _) ?_ 0 (Nat.zero_le _) h _ _ (hw.cg rfl (by show aa = ua (ua aa 17 (aa 17)) 18 (aa 18); rw [ua_id, ua_id])) fr
    clear hw fr; try clear h
    intro i hi ihi h v4 v5 hw fr
    show am_wp _ (_, [_, _, _, _, _, _], _) _ _
    refine w_iload_n s130_19 rfl ?_
    refine w_aload_n s130_20 rfl ?_
    refine w_getf s130_21 (hw 0 _ rfl) rfl ?_
    refine w_iload_n s130_24 rfl ?_
    refine w_ialdV (y := j) (v := nI z) s130_25 (hw 9 _ rfl) (by omega) (by decide) ez ?_
    refine w_icmpgeN (x := i) (y := z) s130_26 rfl (by omega) (by omega)  (fun c26 => ?_) (fun c26 => ?_)
    · skip
      have e : i = z := by omega
      subst e
      refine w_aload_n s130_128 rfl ?_
      refine w_getf s130_129 (hw 0 _ rfl) rfl ?_
      refine w_iret s130_132 rk130 ?_
      exact mq_end (by simp [S_bar, *] <;> first | rfl | exact ⟨rfl, rfl⟩ | exact ⟨rfl, rfl, rfl⟩) hw fr
    · skip
      refine w_aload_n s130_29 rfl ?_
      refine w_iload_n s130_30 rfl ?_
      refine w_iload_n s130_31 rfl ?_
      have hp := x_pc_le aa j i
      have hb := x_bt_le aa j i
      refine w_callV2r s130_32 (hw 0 _ rfl) ow127 mc130_127 rfl rfl (x_pc_r (aa := aa) rfl rfl (c127 hw j z hj hz ez _ (by omega))) ?_
      refine w_istore s130_35 rfl ?_
      show am_wp _ (_, [_, _, _, _, _, _], _) _ _
      refine w_iload s130_37 rfl ?_
      refine w_ifleN (x := (x_pc aa j i)) s130_39 rfl (by omega)  (fun c39 => ?_) (fun c39 => ?_)
      · skip
        refine w_iinc s130_122 rfl (nI_inc (i)) rfl ?_
        show am_wp _ (_, [_, _, _, _, _, _], _) _ _
        refine w_goto s130_125 rfl ?_
        exact ihi (by omega) h _ _ (hw.cg (by rw [x_bt_s]; unfold x_bs; rw [if_neg (by omega)]) (by rw [x_bt_s]; unfold x_bs; rw [if_neg (by omega)])) fr
      · skip
        refine w_iload s130_42 rfl ?_
        refine w_bipush (v := 12) s130_44 rfl ?_
        refine w_icmpgtN (x := (x_pc aa j i)) (y := 12) s130_46 rfl (by omega) (by omega)  (fun c46 => ?_) (fun c46 => ?_)
        · skip
          refine w_iinc s130_122 rfl (nI_inc (i)) rfl ?_
          show am_wp _ (_, [_, _, _, _, _, _], _) _ _
          refine w_goto s130_125 rfl ?_
          exact ihi (by omega) h _ _ (hw.cg (by rw [x_bt_s]; unfold x_bs; rw [if_neg (by omega)]) (by rw [x_bt_s]; unfold x_bs; rw [if_neg (by omega)])) fr
        · skip
          refine w_aload_n s130_49 rfl ?_
          refine w_getf s130_50 (hw 0 _ rfl) rfl ?_
          refine w_bipush (v := 16) s130_53 rfl ?_
          refine w_icmpgeN (x := (x_bt aa j i).1) (y := 16) s130_55 rfl (by omega) (by omega)  (fun c55 => ?_) (fun c55 => ?_)
          · skip
            refine w_iinc s130_122 rfl (nI_inc (i)) rfl ?_
            show am_wp _ (_, [_, _, _, _, _, _], _) _ _
            refine w_goto s130_125 rfl ?_
            exact ihi (by omega) h _ _ (hw.cg (by rw [x_bt_s]; unfold x_bs; rw [if_neg (by omega)]) (by rw [x_bt_s]; unfold x_bs; rw [if_neg (by omega)])) fr
          · skip
            refine w_aload_n s130_58 rfl ?_
            refine w_getf s130_59 (hw 0 _ rfl) rfl ?_
            refine w_aload_n s130_62 rfl ?_
            refine w_getf s130_63 (hw 0 _ rfl) rfl ?_
            refine w_iload s130_66 rfl ?_
            refine m_st17 (y := (x_bt aa j i).1) s130_68 hw fr (by omega) (fun h hw fr => ?_)
            refine w_iconst (v := 0) s130_69 rfl ?_
            refine w_istore s130_70 rfl ?_
            show am_wp _ (_, [_, _, _, _, _, _], _) _ _
            refine am_lp (n := x_pc aa j i) (P := fun k => ∀ h, MW h (uc cc 16 (x_bt aa j i).1) (ua (ua aa 17 (upd (x_bt aa j i).2.1 (x_bt aa j i).1 (nI (x_pc aa j i)))) 18 (x_put (x_bt aa j i).2.2 (12 * (x_bt aa j i).1) k (fun k => x_small (x_sg aa j (i + k))))) → mFr _ h → am_wp 130 (72, [_, _, _, _, _, some (.int (nI k))], []) h _) ?_ 0 (Nat.zero_le _) h (hw.cg rfl (by rw [x_put_0, ua_3 _ _ _ _ (by decide)]; rfl)) fr
            clear hw fr; try clear h
            intro k hk ihk h hw fr
            show am_wp _ (_, [_, _, _, _, _, _], _) _ _
            refine w_iload s130_72 rfl ?_
            refine w_iload s130_74 rfl ?_
            refine w_icmpgeN (x := k) (y := (x_pc aa j i)) s130_76 rfl (by omega) (by omega)  (fun c76 => ?_) (fun c76 => ?_)
            · skip
              have e : k = x_pc aa j i := by omega
              subst e
              refine w_aload_n s130_112 rfl ?_
              refine w_dup_r s130_113 ?_
              refine w_getf s130_114 (hw 0 _ rfl) rfl ?_
              refine w_iconst (v := 1) s130_117 rfl ?_
              refine w_iaddN (x := (x_bt aa j i).1) (y := 1) s130_118 ?_
              refine m_pf16 (v := ((x_bt aa j i).1 + 1)) s130_119 hw fr (fun h hw fr => ?_)
              refine w_iinc s130_122 rfl (nI_inc (i)) rfl ?_
              show am_wp _ (_, [_, _, _, _, _, _], _) _ _
              refine w_goto s130_125 rfl ?_
              exact ihi (by omega) h _ _ (hw.cg (by rw [x_bt_s]; unfold x_bs; rw [if_pos (by omega), uc_uc]) (by rw [x_bt_s]; unfold x_bs; rw [if_pos (by omega)])) fr
            · skip
              refine w_aload_n s130_79 rfl ?_
              refine w_getf s130_80 (hw 0 _ rfl) rfl ?_
              refine w_bipush (v := 12) s130_83 rfl ?_
              refine w_aload_n s130_85 rfl ?_
              refine w_getf s130_86 (hw 0 _ rfl) rfl ?_
              refine w_imulN (x := 12) (y := (x_bt aa j i).1) s130_89 ?_
              refine w_iload s130_90 rfl ?_
              refine w_iaddN (x := (12 * (x_bt aa j i).1)) (y := k) s130_92 ?_
              refine w_aload_n s130_93 rfl ?_
              refine w_iload_n s130_94 rfl ?_
              refine w_iload_n s130_95 rfl ?_
              refine w_iload s130_96 rfl ?_
              refine w_iaddN (x := i) (y := k) s130_98 ?_
              refine w_callV2r s130_99 (hw 0 _ rfl) ow126 mc130_126 rfl rfl (x_sg_r (aa := aa) rfl rfl (c126 hw j z hj hz ez _ (by omega))) ?_
              refine w_callS1r s130_102 mc130_124 rfl rfl (c124 _ _) ?_
              refine m_st18 (y := ((12 * (x_bt aa j i).1) + k)) s130_105 hw fr (by omega) (fun h hw fr => ?_)
              refine w_iinc s130_106 rfl (nI_inc (k)) rfl ?_
              show am_wp _ (_, [_, _, _, _, _, _], _) _ _
              refine w_goto s130_109 rfl ?_
              exact ihk (by omega) h (hw.cg rfl (by rw [ua_s, ua_ua, ← x_put_s])) fr
