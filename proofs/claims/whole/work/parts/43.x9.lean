/-! the class's barred pieces -/
theorem x_u1718 (aa : Nat → Nat → Int32) (f g f' g' : Nat → Int32) : ua (ua (ua (ua aa 17 f) 18 g) 18 g') 17 f' = ua (ua aa 17 f') 18 g' := by
  rw [ua_ua, ua_c _ _ _ (by decide), ua_ua]
theorem x_byte_small {v : Int32} (h : x_byte v) : x_byte (x_small v) := by
  unfold x_small
  by_cases e : x_in v 65 90 = true
  · rw [if_pos e]
    obtain ⟨j, hj, rfl⟩ : ∃ j, j ≤ 90 ∧ v = nI j := x_in_n (b := 90) (by
      unfold x_in at e ⊢
      rw [Bool.and_eq_true] at e ⊢
      exact ⟨decide_eq_true (Int32.le_trans (by decide) (of_decide_eq_true e.1)), e.2⟩) (by decide)
    have : ∀ j, j < 91 → x_in (nI j) 65 90 = true → (nI j + 32).toInt8.toInt32 = nI j + 32 := by decide +kernel
    exact this j (by omega) e
  · rw [if_neg e]
    exact h
theorem x_byte_sg {cc : Nat → Nat} {aa : Nat → Nat → Int32} (iv : IV cc aa) (s k : Nat) : x_byte (x_sg aa s k) := by
  unfold x_sg
  split
  · exact iv.sg _
  · exact rfl
theorem x_bt_16 (aa : Nat → Nat → Int32) (s : Nat) : ∀ i, (x_bt aa s i).1 ≤ 16
  | 0 => Nat.zero_le _
  | i + 1 => by
    have ih := x_bt_16 aa s i
    rw [x_bt_s]
    unfold x_bs
    split
    · show (x_bt aa s i).1 + 1 ≤ 16
      omega
    · exact ih
theorem x_bt_f {aa : Nat → Nat → Int32} {s i : Nat} (h : (x_bt aa s i).1 = 16) : ∀ d, x_bt aa s (i + d) = x_bt aa s i
  | 0 => rfl
  | d + 1 => by
    have ih := x_bt_f h d
    rw [show i + (d + 1) = (i + d) + 1 from rfl, x_bt_s, ih]
    unfold x_bs
    rw [if_neg (by omega)]
theorem c3 {h0 h : am_H} {a b : Nat} {cc : Nat → Nat} {aa : Nat → Nat → Int32} {P : x_P} {D : x_D} (hx : XL h0 a b h cc aa P D) {s z i n : Nat} (hby : ∀ k, x_byte (x_sg aa s k)) (hz : z ≤ 80) (hs : s < 4) (ez : aa 13 s = nI z) (hn : n ≤ 12) (hc : cc 16 < 16) (hi : i + n ≤ z) : am_ev 3 [.ref 19, .ref (11 + 2 * s), .int (nI i), .int (nI n)] h (fun v h1 => v = none ∧ XL h0 a b h1 (uc cc 16 (cc 16 + 1)) (ua (ua aa 18 (x_put (aa 18) (12 * cc 16) n (fun k => x_small (x_sg aa s (i + k))))) 17 (upd (aa 17) (cc 16) (nI n))) P D) := by
  show am_wp _ (_, [_, _, _, _, _], _) _ _
  refine w_iconst (v := 0) s3_0 rfl ?_
  refine w_istore s3_1 rfl ?_
  show am_wp _ (_, [_, _, _, _, _], _) _ _
  refine am_lp (n := n) (P := fun k => ∀ h, XL _ _ _ h cc (ua aa 18 (x_put (aa 18) (12 * cc 16) k (fun k => x_small (x_sg aa s (i + k))))) P D → am_wp 3 (3, [_, _, _, _, some (.int (nI k))], []) h _) ?_ 0 (Nat.zero_le _) h (hx.cg rfl (by rw [x_put_0, ua_id]))
  clear hx; try clear h
  intro k hk ihk h hx
  show am_wp _ (_, [_, _, _, _, _], _) _ _
  refine w_iload s3_3 rfl ?_
  refine w_iload_n s3_5 rfl ?_
  refine w_icmpgeN (x := k) (y := n) s3_6 rfl (by omega) (by omega)  (fun c6 => ?_) (fun c6 => ?_)
  · skip
    have e : k = n := by omega
    subst e
    refine w_aload_n s3_43 rfl ?_
    refine w_getf s3_44 hx.bp rfl ?_
    refine w_aload_n s3_47 rfl ?_
    refine w_getf s3_48 hx.bp rfl ?_
    refine w_iload_n s3_51 rfl ?_
    refine x_st17 hx (y := cc 16) s3_52 hc (fun h hx => ?_)
    refine w_aload_n s3_53 rfl ?_
    refine w_dup_r s3_54 ?_
    refine w_getf s3_55 hx.bp rfl ?_
    refine w_iconst (v := 1) s3_58 rfl ?_
    refine w_iaddN (x := cc 16) (y := 1) s3_59 ?_
    refine x_pc16 hx (cc 16 + 1) s3_60 (fun h hx => ?_)
    refine w_vret s3_63 rk3 ?_
    exact ⟨rfl, hx⟩
  · skip
    refine w_aload_n s3_9 rfl ?_
    refine w_getf s3_10 hx.bp rfl ?_
    refine w_aload_n s3_13 rfl ?_
    refine w_getf s3_14 hx.bp rfl ?_
    refine w_bipush (v := 12) s3_17 rfl ?_
    refine w_imulN (x := cc 16) (y := 12) s3_19 ?_
    refine w_iload s3_20 rfl ?_
    refine w_iaddN (x := (cc 16 * 12)) (y := k) s3_22 ?_
    refine w_aload_n s3_23 rfl ?_
    refine w_getf s3_24 (hx.sh (s) (by omega)) rfl ?_
    refine w_iload_n s3_27 rfl ?_
    refine w_iload s3_28 rfl ?_
    refine w_iaddN (x := i) (y := k) s3_30 ?_
    refine w_baldV (y := (i + k)) (v := x_sg aa s (i + k)) s3_31 (hx.sg (s) (by omega)) (Or.inl rfl) (by omega) (by decide) (x_row_sg ez hz (by omega)) ?_
    refine w_callS1r s3_32 mc3_34 rfl rfl (c34 _ _) ?_
    refine w_i2b s3_35 rfl ?_
    refine x_st18 hx (y := cc 16 * 12 + k) s3_36 (by omega) (fun h hx => ?_)
    rw [x_nrw2, x_byte_small (hby (i + k))] at hx
    refine w_iinc s3_37 rfl (nI_inc (k)) rfl ?_
    show am_wp _ (_, [_, _, _, _, _], _) _ _
    refine w_goto s3_40 rfl ?_
    refine ihk (by omega) h (hx.cg rfl ?_)
    rw [ua_s, ua_ua, ← x_put_s, Nat.mul_comm]
theorem c1 {h0 h : am_H} {a b : Nat} {cc : Nat → Nat} {aa : Nat → Nat → Int32} {P : x_P} {D : x_D} (hx : XL h0 a b h cc aa P D) {s z : Nat} (hby : ∀ k, x_byte (x_sg aa s k)) (hz : z ≤ 80) (hs : s < 4) (ez : aa 13 s = nI z) : am_ev 1 [.ref 19, .ref (11 + 2 * s)] h (fun v h1 => v = none ∧ XL h0 a b h1 (uc cc 16 (x_bt aa s z).1) (ua (ua aa 17 (x_bt aa s z).2.1) 18 (x_bt aa s z).2.2) P D) := by
  have esz := x_sz_n ez hz
  have hzz : tn (aa 13 s) = z := by rw [ez]; exact nI_clamp (by omega)
  have hso := x_sf_o aa s hzz
  show am_wp _ (_, [_, _, _], _) _ _
  refine w_aload_n s1_0 rfl ?_
  refine w_iconst (v := 0) s1_1 rfl ?_
  refine x_pc16 hx 0 s1_2 (fun h hx => ?_)
  refine w_iconst (v := 0) s1_5 rfl ?_
  refine w_istore_n s1_6 rfl ?_
  show am_wp _ (_, [_, _, _], _) _ _
  refine am_lp (n := z) (P := fun i => ∀ h, XL _ _ _ h (uc cc 16 (x_bt aa s i).1) (ua (ua aa 17 (x_bt aa s i).2.1) 18 (x_bt aa s i).2.2) P D → am_wp 1 (7, [_, _, some (.int (nI i))], []) h _) ?_ 0 (Nat.zero_le _) h (hx.cg rfl (by show aa = ua (ua aa 17 (aa 17)) 18 (aa 18); rw [ua_id, ua_id aa 18]))
  clear hx; try clear h
  intro i hi ihi h hx
  have hb16 := x_bt_16 aa s i
  show am_wp _ (_, [_, _, _], _) _ _
  refine w_iload_n s1_7 rfl ?_
  refine w_aload_n s1_8 rfl ?_
  refine w_getf s1_9 (hx.sh s hs) rfl ?_
  rw [show x_sz (ua (ua aa 17 (x_bt aa s i).2.1) 18 (x_bt aa s i).2.2) s = nI z from esz]
  refine w_icmpgeN (x := i) (y := z) s1_12 rfl (by omega) (by omega)  (fun c12 => ?_) (fun c12 => ?_)
  · skip
    have e : i = z := by omega
    subst e
    refine w_vret s1_59 rk1 ?_
    first | exact ⟨rfl, hx⟩ | (rw [hfx]; exact ⟨rfl, hx⟩)
  · skip
    refine w_aload_n s1_15 rfl ?_
    refine w_getf s1_16 hx.bp rfl ?_
    show am_wp _ (_, _, Value.int (nI (x_bt aa s i).1) :: _) _ _
    refine w_bipush (v := 16) s1_19 rfl ?_
    refine w_icmpgeN (x := (x_bt aa s i).1) (y := 16) s1_21 rfl (by omega) (by omega)  (fun c21 => ?_) (fun c21 => ?_)
    · skip
      have e16 : (x_bt aa s i).1 = 16 := by omega
      have hfx := x_bt_f e16 (z - i)
      rw [show i + (z - i) = z by omega] at hfx
      refine w_vret s1_59 rk1 ?_
      first | exact ⟨rfl, hx⟩ | (rw [hfx]; exact ⟨rfl, hx⟩)
    · skip
      refine w_aload_n s1_24 rfl ?_
      refine w_iload_n s1_25 rfl ?_
      refine w_callV1r s1_26 (hx.sh (s) (by omega)) ow28 mc1_28 rfl rfl (show am_rd 28 _ _ (.int (am_bi (decide (0 < x_pc aa s i)))) from c28 hx s z hs hz ez i (by omega)) ?_
      refine w_ifeqB s1_29 rfl  (fun d29 => ?_) (fun d29 => ?_)
      · skip
        have hpc : ¬ 0 < x_pc aa s i := of_decide_eq_false d29
        have hbs : x_bt aa s (i + 1) = x_bt aa s i := by
          rw [x_bt_s]
          unfold x_bs
          rw [if_neg (by omega)]
        refine w_iinc s1_53 rfl (nI_inc (i)) rfl ?_
        show am_wp _ (_, [_, _, _], _) _ _
        refine w_goto s1_56 rfl ?_
        refine ihi (by omega) h ?_
        rw [hbs]
        first | exact hx | exact hx.cg (uc_uc cc 16 _ _) (x_u1718 aa _ _ _ _)
      · skip
        have hpc : 0 < x_pc aa s i := of_decide_eq_true d29
        have hpp := x_pc_p hpc
        have hb : i + x_pl aa s i ≤ z := x_rl_b _ hso 81 i (by omega)
        refine w_aload_n s1_32 rfl ?_
        refine w_iload_n s1_33 rfl ?_
        refine w_callV1r s1_34 (hx.sh (s) (by omega)) ow29 mc1_29 rfl rfl (show am_rd 29 _ _ (.int (nI (x_pl aa s i))) from c29 hx s z hs hz ez i (by omega)) ?_
        refine w_bipush (v := 12) s1_37 rfl ?_
        refine w_icmpgtN (x := (x_pl aa s i)) (y := 12) s1_39 rfl (by omega) (by omega)  (fun c39 => ?_) (fun c39 => ?_)
        · skip
          have hbs : x_bt aa s (i + 1) = x_bt aa s i := by
            rw [x_bt_s]
            unfold x_bs
            rw [if_neg (by omega)]
          refine w_iinc s1_53 rfl (nI_inc (i)) rfl ?_
          show am_wp _ (_, [_, _, _], _) _ _
          refine w_goto s1_56 rfl ?_
          refine ihi (by omega) h ?_
          rw [hbs]
          first | exact hx | exact hx.cg (uc_uc cc 16 _ _) (x_u1718 aa _ _ _ _)
        · skip
          have hbs : x_bt aa s (i + 1) = ((x_bt aa s i).1 + 1, upd (x_bt aa s i).2.1 (x_bt aa s i).1 (nI (x_pl aa s i)), x_put (x_bt aa s i).2.2 (12 * (x_bt aa s i).1) (x_pl aa s i) (fun k => x_small (x_sg aa s (i + k)))) := by
            rw [x_bt_s]
            unfold x_bs
            rw [if_pos (by omega), hpp]
          refine w_aload_n s1_42 rfl ?_
          refine w_aload_n s1_43 rfl ?_
          refine w_iload_n s1_44 rfl ?_
          refine w_aload_n s1_45 rfl ?_
          refine w_iload_n s1_46 rfl ?_
          refine w_callV1r s1_47 (hx.sh (s) (by omega)) ow29 mc1_29 rfl rfl (show am_rd 29 _ _ (.int (nI (x_pl aa s i))) from c29 hx s z hs hz ez i (by omega)) ?_
          refine w_callV3 s1_50 hx.bp ow3 mc1_3 rfl rfl (c3 hx (s := s) (z := z) (i := i) (n := x_pl aa s i) hby hz hs ez (by omega) (show (x_bt aa s i).1 < 16 by omega) (by omega)) ?_
          rintro v h ⟨rfl, hx⟩
          show am_wp _ (_, _, _) _ _
          refine w_iinc s1_53 rfl (nI_inc (i)) rfl ?_
          show am_wp _ (_, [_, _, _], _) _ _
          refine w_goto s1_56 rfl ?_
          refine ihi (by omega) h ?_
          rw [hbs]
          first | exact hx | exact hx.cg (uc_uc cc 16 _ _) (x_u1718 aa _ _ _ _)
theorem c51 {h : am_H} {cc : Nat → Nat} {aa : Nat → Nat → Int32} {P : x_P} {D : x_D} (hx : XL h 0 0 h cc aa P D) (iv : IV cc aa) (s : Int32) : am_ev 51 [.ref 3, .int s] h (xQ h (S_bar cc aa s)) := by
  have n0 := iv.n0
  have n2 := iv.n2
  have n3 := iv.n3
  have n7 := iv.n7
  have n8 := iv.n8
  have n16 := iv.n16
  have n20 := iv.n20
  have n28 := iv.n28
  have n31 := iv.n31
  have n38 := iv.n38
  have n45 := iv.n45
  show am_wp _ (_, [_, _], _) _ _
  refine w_iload_n s51_0 rfl ?_
  refine w_callS1r s51_1 mc51_80 rfl rfl (c80 _ _) ?_
  refine w_ifneB s51_4 rfl  (fun c4 => ?_) (fun c4 => ?_)
  · skip
    obtain ⟨j, hj, rfl⟩ := x_in_n (b := 3) c4 (by decide)
    have jcl := nI_clamp (show j < 2 ^ 31 by omega)
    refine w_aload_n s51_9 rfl ?_
    refine w_getf s51_10 hx.o rfl ?_
    refine w_iload_n s51_13 rfl ?_
    refine w_aald (v := .ref (11 + 2 * (j))) s51_14 hx.sa (Or.inr rfl) (am_inb (show (j) < 4 by omega) (by decide)) (by rw [nI_clamp (show (j) < 2 ^ 31 by omega), if_pos (show (j) < 4 by omega)]; rfl) ?_
    refine w_callV0r s51_15 (hx.sh (j) (by omega)) ow24 mc51_24 rfl rfl (c24 hx iv (j) (by omega)) ?_
    refine w_ifeqB s51_18 rfl  (fun c18 => ?_) (fun c18 => ?_)
    · skip
      have c18x := of_decide_eq_false c18
      obtain ⟨z, hz, ez⟩ := (iv.sz j (by omega)).resolve_left (fun e => c18x (by rw [e]; decide))
      have zcl := nI_clamp (show z < 2 ^ 31 by omega)
      have zpos : ¬ nI z < 0 := nI_pos (by omega)
      refine w_aload_n s51_27 rfl ?_
      refine w_getf s51_28 hx.o rfl ?_
      refine w_aload_n s51_31 rfl ?_
      refine w_getf s51_32 hx.o rfl ?_
      refine w_iload_n s51_35 rfl ?_
      refine w_aald (v := .ref (11 + 2 * (j))) s51_36 hx.sa (Or.inr rfl) (am_inb (show (j) < 4 by omega) (by decide)) (by rw [nI_clamp (show (j) < 2 ^ 31 by omega), if_pos (show (j) < 4 by omega)]; rfl) ?_
      refine w_callV1 s51_37 hx.bp ow1 mc51_1 rfl rfl (c1 hx (s := j) (z := z) (x_byte_sg iv j) hz (by omega) ez) ?_
      rintro v h ⟨rfl, hx⟩
      show am_wp _ (_, _, _) _ _
      refine w_aload_n s51_40 rfl ?_
      refine w_getf s51_41 hx.o rfl ?_
      refine w_getf s51_44 hx.bp rfl ?_
      refine w_iret s51_47 rk51 ?_
      exact xq_end (by decide) (by decide) (by simp [S_bar, S_meets, tn, *] <;> first | rfl | exact ⟨rfl, rfl⟩ | exact ⟨rfl, rfl, rfl⟩) hx
    · skip
      have c18x := of_decide_eq_true c18
      refine w_aload_n s51_21 rfl ?_
      refine w_iconst (v := 1) s51_22 rfl ?_
      refine w_callV1 s51_23 hx.o ow89 mc51_89 rfl rfl (c89 hx 1 (by decide)) ?_
      rintro v h ⟨rfl, hx⟩
      show am_wp _ (_, _, Value.int (-3) :: _) _ _
      refine w_iret s51_26 rk51 ?_
      exact xq_end (by decide) (by decide) (by simp [S_bar, S_meets, tn, *] <;> first | rfl | exact ⟨rfl, rfl⟩ | exact ⟨rfl, rfl, rfl⟩) hx
  · skip
    refine w_iconst (v := (-1)) s51_7 rfl ?_
    refine w_iret s51_8 rk51 ?_
    exact xq_end (by decide) (by decide) (by simp [S_bar, S_meets, tn, *] <;> first | rfl | exact ⟨rfl, rfl⟩ | exact ⟨rfl, rfl, rfl⟩) hx
