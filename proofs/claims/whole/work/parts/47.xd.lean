/-! the class's round: the walk -/
theorem x_popz : x_pop 0 10 = 0 := by decide +kernel
theorem c19 {h0 h : am_H} {a b : Nat} {cc : Nat → Nat} {aa : Nat → Nat → Int32} {P : x_P} {D : x_D} (hx : XL h0 a b h cc aa P D) (iv : IV cc aa) (f s : Nat) (hf : f < cc 3) (h2 : s < 2 ^ cc 3) : am_ev 19 [.ref 22, .ref 4, .int (nI f), .int (nI s)] h (fun v h1 => v = some (.int (nI (x_L aa (cc 3) s f))) ∧ ∃ P2 D2, XL h0 (a + 1) (b + 10240) h1 (uc cc 45 (x_rt aa (cc 3) s f (aa 46) 10).2.2.1) (ua aa 46 (x_rt aa (cc 3) s f (aa 46) 10).2.2.2) P2 D2) := by
  have n0 := iv.n0
  have n2 := iv.n2
  have n3 := iv.n3
  have n7 := iv.n7
  have n8 := iv.n8
  have n16 := iv.n16
  have n20 := iv.n20
  have n28 := iv.n28
  have n31 := iv.n31
  have n38 := iv.n38
  have n45 := iv.n45
  have hsq := iv.sq
  have hs := iv.short
  have h10 := Nat.pow_le_pow_right (n := 2) (by decide) n3
  have hp10 := x_pop10 s (by omega)
  have hms9 := hx.2.2.2.1
  show am_wp _ (_, [_, _, _, _, _, _, _, _, _], _) _ _
  refine w_aload_n s19_0 rfl ?_
  refine w_getf s19_1 hx.rd rfl ?_
  refine w_aload_n s19_4 rfl ?_
  refine w_callV0r s19_5 (hx.l 0 (by decide)) ow181 mc19_181 rfl rfl (hx.size 0 (by decide)) ?_
  refine w_icmpeqN (x := D.2.2.1) (y := cc 3) s19_8 rfl (by omega) (by omega)  (fun c8 => ?_) (fun c8 => ?_)
  · skip
    have hx : XL h0 (a + 1) (b + 10240) h cc aa P D := ⟨hx.1.cg (by omega) (by omega) (fun k i l => ⟨l, rfl⟩), hx.2⟩
    have hms := c8
    refine w_iload_n s19_16 rfl ?_
    refine w_istore s19_17 rfl ?_
    show am_wp _ (_, [_, _, _, _, _, _, _, _, _], _) _ _
    refine w_iload_n s19_19 rfl ?_
    refine w_istore s19_20 rfl ?_
    show am_wp _ (_, [_, _, _, _, _, _, _, _, _], _) _ _
    refine w_iconst (v := 0) s19_22 rfl ?_
    refine w_istore s19_23 rfl ?_
    show am_wp _ (_, [_, _, _, _, _, _, _, _, _], _) _ _
    refine w_aload_n s19_25 rfl ?_
    refine w_iload_n s19_26 rfl ?_
    refine w_callS1r s19_27 mc19_175 rfl rfl (c175 _ _) ?_
    rw [show x_bc (nI s) = nI (x_pop s 10) from (x_bcb (by omega)).trans (x_popb s (by omega))]
    refine x_pc45 hx (x_pop s 10) s19_30 (fun h hx => ?_)
    have htab := hx.2.2.2.2 hms (show 0 < cc 3 by omega)
    refine w_iconst (v := 0) s19_33 rfl ?_
    refine w_istore s19_34 rfl ?_
    show am_wp _ (_, [_, _, _, _, _, _, _, _, _], _) _ _
    refine am_lp (n := 10) (P := fun k => ∀ h L at_ row w v8, x_rt aa (cc 3) s f (aa 46) k = (L, at_, k, row) → L ≤ s → at_ < cc 3 → k + x_pop L 10 = x_pop s 10 → w + x_L aa (cc 3) L at_ = x_L aa (cc 3) s f → XL h0 (a + 1) (b + 10240) h (uc cc 45 (x_pop s 10)) (ua aa 46 row) P D → am_wp 19 (36, [_, _, _, _, some (.int (nI L)), some (.int (nI at_)), some (.int (nI w)), some (.int (nI k)), v8], []) h _) ?_ 0 (Nat.zero_le _) h s f (aa 46) 0 none rfl (Nat.le_refl _) hf (Nat.zero_add _) (Nat.zero_add _) (hx.cg rfl (ua_id aa 46).symm)
    clear hx; try clear h
    intro k hk ihk h L at_ row w v8 hR hLe hat hpc hW hx
    show am_wp _ (_, [_, _, _, _, _, _, _, _, _], _) _ _
    refine w_iload s19_36 rfl ?_
    refine w_aload_n s19_38 rfl ?_
    refine w_getf s19_39 hx.rd rfl ?_
    refine w_icmpgeN (x := k) (y := (x_pop s 10)) s19_42 rfl (by omega) (by omega)  (fun c42 => ?_) (fun c42 => ?_)
    · skip
      refine w_iload s19_110 rfl ?_
      refine w_iret s19_112 rk19 ?_
      have ek : k = x_pop s 10 := by omega
      have eL : L = 0 := x_pop0 L (by omega) (by omega)
      subst eL
      rw [x_L_0] at hW
      have e10 : x_rt aa (cc 3) s f (aa 46) 10 = x_rt aa (cc 3) s f (aa 46) k := by
        have e9 := x_rt_f (aa := aa) (m := cc 3) (s := s) (f := f) (r := aa 46) (k := k) (by rw [hR]) (10 - k)
        rwa [show k + (10 - k) = 10 by omega] at e9
      rw [e10, hR, show x_L aa (cc 3) s f = w by omega, ek]
      exact ⟨rfl, P, D, hx⟩
    · skip
      have hL0 : L ≠ 0 := by
        intro e
        rw [e, x_popz] at hpc
        omega
      have hTu : ∀ u, u < cc 3 → L.testBit u = true → D.2.2.2.2 (10 * (L - 2 ^ u) + u) = nI (x_L (ua aa 46 row) (cc 3) (L - 2 ^ u) u) := by
        intro u hu hb
        have h1 := x_bit_le hb
        have h3 := Nat.two_pow_pos u
        rw [x_L_cg (aa := aa) (aa' := ua aa 46 row) rfl rfl]
        exact htab.2 _ (show L - 2 ^ u < 2 ^ cc 3 by omega) u hu (x_tbd L (by omega) u (by omega) hb)
      have hnx := x_nxt_p (aa := aa) hs n3 hL0 (show L < 2 ^ cc 3 by omega) hat
      have hnv := x_nxt_V (aa := aa) hs n3 hL0 (show L < 2 ^ cc 3 by omega) hat
      have hpp := x_popd L (by omega) _ (show x_nxt aa (cc 3) L at_ < 10 by omega) hnv.2
      have hVV : x_W aa at_ (x_nxt aa (cc 3) L at_) + x_L aa (cc 3) (L - 2 ^ x_nxt aa (cc 3) L at_) (x_nxt aa (cc 3) L at_) = x_L aa (cc 3) L at_ := hnv.1
      have hbl := x_bit_le hnv.2
      refine w_aload_n s19_45 rfl ?_
      refine w_aload_n s19_46 rfl ?_
      refine w_iload s19_47 rfl ?_
      refine w_iload s19_49 rfl ?_
      refine w_callV3r s19_51 hx.rd ow21 mc19_21 rfl rfl (show am_rd 21 _ _ (.int (nI (x_nxt aa (cc 3) L at_))) from (x_nxt_cg (aa := aa) (aa' := ua aa 46 row) rfl rfl (cc 3) L at_) ▸ c21 hx.xm n3 hsq hs htab.1 hms at_ L hat (show L < 2 ^ cc 3 by omega) hL0 hTu) ?_
      refine w_istore s19_54 rfl ?_
      show am_wp _ (_, [_, _, _, _, _, _, _, _, _], _) _ _
      refine w_iload s19_56 rfl ?_
      refine w_aload_n s19_58 rfl ?_
      refine w_iload s19_59 rfl ?_
      refine w_callV1r s19_61 (hx.l 0 (by decide)) ow184 mc19_184 rfl rfl (hx.get 0 (by decide) at_ hat) ?_
      refine w_cast s19_64 (hx.sq (at_) hat) ?_
      refine w_aload_n s19_67 rfl ?_
      refine w_iload s19_68 rfl ?_
      refine w_callV1r s19_70 (hx.l 0 (by decide)) ow184 mc19_184 rfl rfl (hx.get 0 (by decide) (x_nxt aa (cc 3) L at_) hnx.1) ?_
      refine w_cast s19_73 (hx.sq ((x_nxt aa (cc 3) L at_)) hnx.1) ?_
      refine w_callV1r s19_76 (hx.sq (at_) hat) ow36 mc19_36 rfl rfl (show am_rd 36 _ _ (.int (nI (x_W aa at_ (x_nxt aa (cc 3) L at_)))) from c36m hx.xm n3 hsq hs at_ (x_nxt aa (cc 3) L at_) hat hnx.1) ?_
      refine w_iaddN (x := w) (y := (x_W aa at_ (x_nxt aa (cc 3) L at_))) s19_79 ?_
      refine w_istore s19_80 rfl ?_
      show am_wp _ (_, [_, _, _, _, _, _, _, _, _], _) _ _
      refine w_aload_n s19_82 rfl ?_
      refine w_getf s19_83 hx.rd rfl ?_
      refine w_iload s19_86 rfl ?_
      refine w_iload s19_88 rfl ?_
      refine x_st46 hx (y := k) s19_90 (by omega) (fun h hx => ?_)
      refine w_iload s19_91 rfl ?_
      refine w_iconst (v := 1) s19_93 rfl ?_
      refine w_iload s19_94 rfl ?_
      refine w_ishl s19_96 rfl ?_
      refine w_ixor s19_97 (x_xor L (by omega) (x_nxt aa (cc 3) L at_) (by omega) hnv.2) ?_
      refine w_istore s19_98 rfl ?_
      show am_wp _ (_, [_, _, _, _, _, _, _, _, _], _) _ _
      refine w_iload s19_100 rfl ?_
      refine w_istore s19_102 rfl ?_
      show am_wp _ (_, [_, _, _, _, _, _, _, _, _], _) _ _
      refine w_iinc s19_104 rfl (nI_inc (k)) rfl ?_
      show am_wp _ (_, [_, _, _, _, _, _, _, _, _], _) _ _
      refine w_goto s19_107 rfl ?_
      have eR : x_rt aa (cc 3) s f (aa 46) (k + 1) = (L - 2 ^ x_nxt aa (cc 3) L at_, x_nxt aa (cc 3) L at_, k + 1, upd row k (nI (x_nxt aa (cc 3) L at_))) := by
        rw [x_rt_s, hR]
        unfold x_rs
        rw [if_neg hL0]
      exact ihk (by omega) h _ _ _ _ _ eR (Nat.le_trans (Nat.sub_le _ _) hLe) hnx.1 (by omega) (by omega) (hx.cg rfl (by rw [ua_s, ua_ua]))
  · skip
    refine w_aload_n s19_11 rfl ?_
    refine w_aload_n s19_12 rfl ?_
    refine w_callV1 s19_13 hx.rd ow20 mc19_20 rfl rfl (c20 hx iv (by omega)) ?_
    rintro v h ⟨rfl, P, D, hms, hx⟩
    show am_wp _ (_, _, _) _ _
    refine w_iload_n s19_16 rfl ?_
    refine w_istore s19_17 rfl ?_
    show am_wp _ (_, [_, _, _, _, _, _, _, _, _], _) _ _
    refine w_iload_n s19_19 rfl ?_
    refine w_istore s19_20 rfl ?_
    show am_wp _ (_, [_, _, _, _, _, _, _, _, _], _) _ _
    refine w_iconst (v := 0) s19_22 rfl ?_
    refine w_istore s19_23 rfl ?_
    show am_wp _ (_, [_, _, _, _, _, _, _, _, _], _) _ _
    refine w_aload_n s19_25 rfl ?_
    refine w_iload_n s19_26 rfl ?_
    refine w_callS1r s19_27 mc19_175 rfl rfl (c175 _ _) ?_
    rw [show x_bc (nI s) = nI (x_pop s 10) from (x_bcb (by omega)).trans (x_popb s (by omega))]
    refine x_pc45 hx (x_pop s 10) s19_30 (fun h hx => ?_)
    have htab := hx.2.2.2.2 hms (show 0 < cc 3 by omega)
    refine w_iconst (v := 0) s19_33 rfl ?_
    refine w_istore s19_34 rfl ?_
    show am_wp _ (_, [_, _, _, _, _, _, _, _, _], _) _ _
    refine am_lp (n := 10) (P := fun k => ∀ h L at_ row w v8, x_rt aa (cc 3) s f (aa 46) k = (L, at_, k, row) → L ≤ s → at_ < cc 3 → k + x_pop L 10 = x_pop s 10 → w + x_L aa (cc 3) L at_ = x_L aa (cc 3) s f → XL h0 (a + 1) (b + 10240) h (uc cc 45 (x_pop s 10)) (ua aa 46 row) P D → am_wp 19 (36, [_, _, _, _, some (.int (nI L)), some (.int (nI at_)), some (.int (nI w)), some (.int (nI k)), v8], []) h _) ?_ 0 (Nat.zero_le _) h s f (aa 46) 0 none rfl (Nat.le_refl _) hf (Nat.zero_add _) (Nat.zero_add _) (hx.cg rfl (ua_id aa 46).symm)
    clear hx; try clear h
    intro k hk ihk h L at_ row w v8 hR hLe hat hpc hW hx
    show am_wp _ (_, [_, _, _, _, _, _, _, _, _], _) _ _
    refine w_iload s19_36 rfl ?_
    refine w_aload_n s19_38 rfl ?_
    refine w_getf s19_39 hx.rd rfl ?_
    refine w_icmpgeN (x := k) (y := (x_pop s 10)) s19_42 rfl (by omega) (by omega)  (fun c42 => ?_) (fun c42 => ?_)
    · skip
      refine w_iload s19_110 rfl ?_
      refine w_iret s19_112 rk19 ?_
      have ek : k = x_pop s 10 := by omega
      have eL : L = 0 := x_pop0 L (by omega) (by omega)
      subst eL
      rw [x_L_0] at hW
      have e10 : x_rt aa (cc 3) s f (aa 46) 10 = x_rt aa (cc 3) s f (aa 46) k := by
        have e9 := x_rt_f (aa := aa) (m := cc 3) (s := s) (f := f) (r := aa 46) (k := k) (by rw [hR]) (10 - k)
        rwa [show k + (10 - k) = 10 by omega] at e9
      rw [e10, hR, show x_L aa (cc 3) s f = w by omega, ek]
      exact ⟨rfl, P, D, hx⟩
    · skip
      have hL0 : L ≠ 0 := by
        intro e
        rw [e, x_popz] at hpc
        omega
      have hTu : ∀ u, u < cc 3 → L.testBit u = true → D.2.2.2.2 (10 * (L - 2 ^ u) + u) = nI (x_L (ua aa 46 row) (cc 3) (L - 2 ^ u) u) := by
        intro u hu hb
        have h1 := x_bit_le hb
        have h3 := Nat.two_pow_pos u
        rw [x_L_cg (aa := aa) (aa' := ua aa 46 row) rfl rfl]
        exact htab.2 _ (show L - 2 ^ u < 2 ^ cc 3 by omega) u hu (x_tbd L (by omega) u (by omega) hb)
      have hnx := x_nxt_p (aa := aa) hs n3 hL0 (show L < 2 ^ cc 3 by omega) hat
      have hnv := x_nxt_V (aa := aa) hs n3 hL0 (show L < 2 ^ cc 3 by omega) hat
      have hpp := x_popd L (by omega) _ (show x_nxt aa (cc 3) L at_ < 10 by omega) hnv.2
      have hVV : x_W aa at_ (x_nxt aa (cc 3) L at_) + x_L aa (cc 3) (L - 2 ^ x_nxt aa (cc 3) L at_) (x_nxt aa (cc 3) L at_) = x_L aa (cc 3) L at_ := hnv.1
      have hbl := x_bit_le hnv.2
      refine w_aload_n s19_45 rfl ?_
      refine w_aload_n s19_46 rfl ?_
      refine w_iload s19_47 rfl ?_
      refine w_iload s19_49 rfl ?_
      refine w_callV3r s19_51 hx.rd ow21 mc19_21 rfl rfl (show am_rd 21 _ _ (.int (nI (x_nxt aa (cc 3) L at_))) from (x_nxt_cg (aa := aa) (aa' := ua aa 46 row) rfl rfl (cc 3) L at_) ▸ c21 hx.xm n3 hsq hs htab.1 hms at_ L hat (show L < 2 ^ cc 3 by omega) hL0 hTu) ?_
      refine w_istore s19_54 rfl ?_
      show am_wp _ (_, [_, _, _, _, _, _, _, _, _], _) _ _
      refine w_iload s19_56 rfl ?_
      refine w_aload_n s19_58 rfl ?_
      refine w_iload s19_59 rfl ?_
      refine w_callV1r s19_61 (hx.l 0 (by decide)) ow184 mc19_184 rfl rfl (hx.get 0 (by decide) at_ hat) ?_
      refine w_cast s19_64 (hx.sq (at_) hat) ?_
      refine w_aload_n s19_67 rfl ?_
      refine w_iload s19_68 rfl ?_
      refine w_callV1r s19_70 (hx.l 0 (by decide)) ow184 mc19_184 rfl rfl (hx.get 0 (by decide) (x_nxt aa (cc 3) L at_) hnx.1) ?_
      refine w_cast s19_73 (hx.sq ((x_nxt aa (cc 3) L at_)) hnx.1) ?_
      refine w_callV1r s19_76 (hx.sq (at_) hat) ow36 mc19_36 rfl rfl (show am_rd 36 _ _ (.int (nI (x_W aa at_ (x_nxt aa (cc 3) L at_)))) from c36m hx.xm n3 hsq hs at_ (x_nxt aa (cc 3) L at_) hat hnx.1) ?_
      refine w_iaddN (x := w) (y := (x_W aa at_ (x_nxt aa (cc 3) L at_))) s19_79 ?_
      refine w_istore s19_80 rfl ?_
      show am_wp _ (_, [_, _, _, _, _, _, _, _, _], _) _ _
      refine w_aload_n s19_82 rfl ?_
      refine w_getf s19_83 hx.rd rfl ?_
      refine w_iload s19_86 rfl ?_
      refine w_iload s19_88 rfl ?_
      refine x_st46 hx (y := k) s19_90 (by omega) (fun h hx => ?_)
      refine w_iload s19_91 rfl ?_
      refine w_iconst (v := 1) s19_93 rfl ?_
      refine w_iload s19_94 rfl ?_
      refine w_ishl s19_96 rfl ?_
      refine w_ixor s19_97 (x_xor L (by omega) (x_nxt aa (cc 3) L at_) (by omega) hnv.2) ?_
      refine w_istore s19_98 rfl ?_
      show am_wp _ (_, [_, _, _, _, _, _, _, _, _], _) _ _
      refine w_iload s19_100 rfl ?_
      refine w_istore s19_102 rfl ?_
      show am_wp _ (_, [_, _, _, _, _, _, _, _, _], _) _ _
      refine w_iinc s19_104 rfl (nI_inc (k)) rfl ?_
      show am_wp _ (_, [_, _, _, _, _, _, _, _, _], _) _ _
      refine w_goto s19_107 rfl ?_
      have eR : x_rt aa (cc 3) s f (aa 46) (k + 1) = (L - 2 ^ x_nxt aa (cc 3) L at_, x_nxt aa (cc 3) L at_, k + 1, upd row k (nI (x_nxt aa (cc 3) L at_))) := by
        rw [x_rt_s, hR]
        unfold x_rs
        rw [if_neg hL0]
      exact ihk (by omega) h _ _ _ _ _ eR (Nat.le_trans (Nat.sub_le _ _) hLe) hnx.1 (by omega) (by omega) (hx.cg rfl (by rw [ua_s, ua_ua]))
theorem c70 {h : am_H} {cc : Nat → Nat} {aa : Nat → Nat → Int32} {P : x_P} {D : x_D} (hx : XL h 0 0 h cc aa P D) (iv : IV cc aa) (c s : Int32) : am_ev 70 [.ref 3, .int c, .int s] h (xQ h (S_round cc aa c s)) := by
  have n0 := iv.n0
  have n2 := iv.n2
  have n3 := iv.n3
  have n7 := iv.n7
  have n8 := iv.n8
  have n16 := iv.n16
  have n20 := iv.n20
  have n28 := iv.n28
  have n31 := iv.n31
  have n38 := iv.n38
  have n45 := iv.n45
  show am_wp _ (_, [_, _, _], _) _ _
  refine w_aload_n s70_0 rfl ?_
  refine w_iload_n s70_1 rfl ?_
  refine w_callV1r s70_2 hx.o ow85 mc70_85 rfl rfl (c85 hx iv _) ?_
  refine w_ifeqB s70_5 rfl  (fun c5 => ?_) (fun c5 => ?_)
  · skip
    refine w_iconst (v := (-1)) s70_16 rfl ?_
    refine w_iret s70_17 rk70 ?_
    exact xq_end (by decide) (by decide) (by simp [S_round, *]) hx
  · skip
    obtain ⟨j, hj, rfl⟩ := x_ix_i c5
    have jcl := nI_clamp (show j < 2 ^ 31 by omega)
    refine w_aload_n s70_8 rfl ?_
    refine w_iload_n s70_9 rfl ?_
    refine w_callV1r s70_10 hx.o ow86 mc70_86 rfl rfl (c86 hx iv _) ?_
    refine w_ifneB s70_13 rfl  (fun c13 => ?_) (fun c13 => ?_)
    · skip
      obtain ⟨sj, hsj, rfl⟩ := x_arq_e n3 c13
      have scl := nI_clamp (show sj < 2 ^ 31 by have := Nat.pow_le_pow_right (n := 2) (by decide) n3; omega)
      obtain ⟨q0, hq0, eq0⟩ := x_ix_i (iv.cr j hj)
      refine w_aload_n s70_18 rfl ?_
      refine w_getf s70_19 hx.o rfl ?_
      refine w_aload_n s70_22 rfl ?_
      refine w_getf s70_23 hx.o rfl ?_
      refine w_aload_n s70_26 rfl ?_
      refine w_getf s70_27 hx.o rfl ?_
      refine w_iload_n s70_30 rfl ?_
      refine w_callV1r s70_31 (hx.l 3 (by decide)) ow184 mc70_184 rfl rfl (hx.get 3 (by decide) (j) (show (j) < cc 28 by omega)) ?_
      refine w_cast s70_34 (hx.cr (j) (by omega)) ?_
      refine w_getf s70_37 (hx.cr (j) (by omega)) rfl ?_
      rw [eq0]
      refine w_iload_n s70_40 rfl ?_
      refine w_callV3 s70_41 hx.rd ow19 mc70_19 rfl rfl (c19 hx iv q0 sj hq0 hsj) ?_
      rintro v h ⟨rfl, P, D, hx⟩
      show am_wp _ (_, _, Value.int _ :: _) _ _
      refine w_iret s70_44 rk70 ?_
      refine xq_end (by decide) (by decide) ?_ hx
      unfold S_round x_R tn
      rw [if_pos ⟨c5, c13⟩, jcl, scl, eq0, nI_clamp (show q0 < 2 ^ 31 by omega)]
    · skip
      refine w_iconst (v := (-1)) s70_16 rfl ?_
      refine w_iret s70_17 rk70 ?_
      exact xq_end (by decide) (by decide) (by simp [S_round, *]) hx
