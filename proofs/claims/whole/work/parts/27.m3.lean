/-! the reference: sheets -/
theorem x_fill0_0 (f : Nat → Int32) (a : Nat) : x_fill0 f a 0 = f := by
  funext k
  exact if_neg (by omega)
theorem x_fill0_s (f : Nat → Int32) (a n : Nat) : upd (x_fill0 f a n) (a + n) 0 = x_fill0 f a (n + 1) := by
  funext k
  by_cases e : k = a + n
  · subst e
    rw [pk_us]
    exact (if_pos (by omega)).symm
  · rw [pk_un e]
    unfold x_fill0
    by_cases c : a ≤ k ∧ k < a + n
    · rw [if_pos c, if_pos (by omega)]
    · rw [if_neg c, if_neg (by omega)]
theorem x_of80 {n : Int32} (h1 : n ≤ 80) (h2 : 0 ≤ n) : ∃ z, z ≤ 80 ∧ n = nI z := by
  rw [Int32.le_iff_toInt_le] at h1 h2
  simp only [show (0 : Int32).toInt = 0 from rfl, show (80 : Int32).toInt = 80 from rfl] at h1 h2
  refine ⟨n.toInt.toNat, by omega, ?_⟩
  apply Int32.toInt_inj.mp
  rw [nI_toInt (by omega)]
  omega
theorem c119 {h : am_H} {cc : Nat → Nat} {aa : Nat → Nat → Int32} (hw : MW h cc aa) (iv : IV cc aa) (s n : Int32) : am_ev 119 [.ref 27, .int s, .int n] h (mQ h (S_sheet cc aa s n)) := by
  have fr := mFr.rf h
  have n0 := iv.n0
  have n2 := iv.n2
  have n3 := iv.n3
  have n7 := iv.n7
  have n8 := iv.n8
  have n16 := iv.n16
  have n20 := iv.n20
  have n28 := iv.n28
  have n31 := iv.n31
  have n38 := iv.n38
  have n45 := iv.n45
  show am_wp _ (_, [_, _, _, _], _) _ _
  refine w_iload_n s119_0 rfl ?_
  refine w_callS1r s119_1 mc119_117 rfl rfl (c117 _ _) ?_
  refine w_ifeqB s119_4 rfl  (fun c4 => ?_) (fun c4 => ?_)
  · skip
    refine w_iconst (v := (-1)) s119_13 rfl ?_
    refine w_iret s119_14 rk119 ?_
    exact mq_end (by simp [S_sheet, *] <;> first | rfl | exact ⟨rfl, rfl⟩ | exact ⟨rfl, rfl, rfl⟩) hw fr
  · skip
    obtain ⟨j, hj, rfl⟩ := x_in_n (b := 3) c4 (by decide)
    have hj2 := nI_clamp (show j < 2 ^ 31 by omega)
    refine w_iload_n s119_7 rfl ?_
    refine w_bipush (v := 80) s119_8 rfl ?_
    refine w_icmple s119_10 rfl  (fun c10 => ?_) (fun c10 => ?_)
    · skip
      refine w_iload_n s119_15 rfl ?_
      refine w_ifge s119_16 rfl  (fun c16 => ?_) (fun c16 => ?_)
      · skip
        refine w_aload_n s119_25 rfl ?_
        refine w_getf s119_26 (hw 0 _ rfl) rfl ?_
        refine w_iload_n s119_29 rfl ?_
        refine w_iload_n s119_30 rfl ?_
        refine m_st13 (y := j) s119_31 hw fr (by omega) (fun h hw fr => ?_)
        refine w_iconst (v := 0) s119_32 rfl ?_
        refine w_istore_n s119_33 rfl ?_
        show am_wp _ (_, [_, _, _, _], _) _ _
        refine am_lp (n := 80) (P := fun i => ∀ h, MW h cc (ua (ua aa 13 (upd (aa 13) j n)) 14 (x_fill0 (aa 14) (80 * j) i)) → mFr _ h → am_wp 119 (34, [_, _, _, some (.int (nI i))], []) h _) ?_ 0 (Nat.zero_le _) h (hw.cg rfl (by rw [x_fill0_0]; exact (ua_id _ 14).symm)) fr
        clear hw fr; try clear h
        intro i hi ih h hw fr
        show am_wp _ (_, [_, _, _, _], _) _ _
        refine w_iload_n s119_34 rfl ?_
        refine w_bipush (v := 80) s119_35 rfl ?_
        refine w_icmpgeN (x := i) (y := 80) s119_37 rfl (by omega) (by omega)  (fun c37 => ?_) (fun c37 => ?_)
        · skip
          have e : i = 80 := by omega
          subst e
          refine w_iload_n s119_58 rfl ?_
          refine w_iret s119_59 rk119 ?_
          exact mq_end (by simp [S_sheet, *] <;> first | rfl | exact ⟨rfl, rfl⟩ | exact ⟨rfl, rfl, rfl⟩) hw fr
        · skip
          refine w_aload_n s119_40 rfl ?_
          refine w_getf s119_41 (hw 0 _ rfl) rfl ?_
          refine w_bipush (v := 80) s119_44 rfl ?_
          refine w_iload_n s119_46 rfl ?_
          refine w_imulN (x := 80) (y := j) s119_47 ?_
          refine w_iload_n s119_48 rfl ?_
          refine w_iaddN (x := (80 * j)) (y := i) s119_49 ?_
          refine w_iconst (v := 0) s119_50 rfl ?_
          refine m_st14 (y := ((80 * j) + i)) s119_51 hw fr (by omega) (fun h hw fr => ?_)
          refine w_iinc s119_52 rfl (nI_inc (i)) rfl ?_
          show am_wp _ (_, [_, _, _, _], _) _ _
          refine w_goto s119_55 rfl ?_
          exact ih (by omega) h (hw.cg rfl (by rw [ua_s, x_fill0_s, ua_ua])) fr
      · skip
        refine w_aload_n s119_19 rfl ?_
        refine w_iconst (v := 5) s119_20 rfl ?_
        refine w_callV1 s119_21 (hw 0 _ rfl) ow104 mc119_104 rfl rfl (c104 hw 5 (by decide)) ?_
        rintro v h ⟨rfl, hw, fr2⟩
        replace fr := fr.tr fr2
        clear fr2
        show am_wp _ (_, _, Value.int (-3) :: _) _ _
        refine w_iret s119_24 rk119 ?_
        exact mq_end (by simp [S_sheet, *] <;> first | rfl | exact ⟨rfl, rfl⟩ | exact ⟨rfl, rfl, rfl⟩) hw fr
    · skip
      refine w_iconst (v := (-1)) s119_13 rfl ?_
      refine w_iret s119_14 rk119 ?_
      exact mq_end (by simp [S_sheet, *] <;> first | rfl | exact ⟨rfl, rfl⟩ | exact ⟨rfl, rfl, rfl⟩) hw fr
theorem c120 {h : am_H} {cc : Nat → Nat} {aa : Nat → Nat → Int32} (hw : MW h cc aa) (iv : IV cc aa) (s i c : Int32) : am_ev 120 [.ref 27, .int s, .int i, .int c] h (mQ h (S_lay cc aa s i c)) := by
  have fr := mFr.rf h
  have n0 := iv.n0
  have n2 := iv.n2
  have n3 := iv.n3
  have n7 := iv.n7
  have n8 := iv.n8
  have n16 := iv.n16
  have n20 := iv.n20
  have n28 := iv.n28
  have n31 := iv.n31
  have n38 := iv.n38
  have n45 := iv.n45
  rcases x_lk s aa with cs | ⟨j, hj, rfl, cz⟩ | ⟨j, hj, rfl, cz⟩
  · skip
    skip
    show am_wp _ (_, [_, _, _, _, _, _], _) _ _
    refine w_aload_n s120_0 rfl ?_
    refine w_iload_n s120_1 rfl ?_
    refine w_callV1r s120_2 (hw 0 _ rfl) ow118 mc120_118 rfl rfl (c118a hw _ cs) ?_
    refine w_istore s120_5 rfl ?_
    show am_wp _ (_, [_, _, _, _, _, _], _) _ _
    refine w_iload s120_7 rfl ?_
    refine w_ifge s120_9 rfl  (fun c => absurd c (by decide)) (fun c9 => ?_)
    refine w_iload s120_12 rfl ?_
    refine w_iret s120_14 rk120 ?_
    exact mq_end (by simp [S_lay, *] <;> first | rfl | exact ⟨rfl, rfl⟩ | exact ⟨rfl, rfl, rfl⟩) hw fr
  · skip
    have cs := x_in3 hj
    have hj2 := nI_clamp (show j < 2 ^ 31 by omega)
    show am_wp _ (_, [_, _, _, _, _, _], _) _ _
    refine w_aload_n s120_0 rfl ?_
    refine w_iload_n s120_1 rfl ?_
    refine w_callV1 s120_2 (hw 0 _ rfl) ow118 mc120_118 rfl rfl (c118b hw j hj cz) ?_
    rintro v h ⟨rfl, hw, fr2⟩
    replace fr := fr.tr fr2
    clear fr2
    show am_wp _ (_, _, Value.int (-3) :: _) _ _
    refine w_istore s120_5 rfl ?_
    show am_wp _ (_, [_, _, _, _, _, _], _) _ _
    refine w_iload s120_7 rfl ?_
    refine w_ifge s120_9 rfl  (fun c => absurd c (by decide)) (fun c9 => ?_)
    refine w_iload s120_12 rfl ?_
    refine w_iret s120_14 rk120 ?_
    exact mq_end (by simp [S_lay, *] <;> first | rfl | exact ⟨rfl, rfl⟩ | exact ⟨rfl, rfl, rfl⟩) hw fr
  · skip
    have cs := x_in3 hj
    have hj2 := nI_clamp (show j < 2 ^ 31 by omega)
    obtain ⟨z, hz, ez⟩ : ∃ z, z ≤ 80 ∧ aa 13 j = nI z := (iv.sz j hj).resolve_left (fun e => cz (by rw [e]; decide))
    have hz2 := nI_clamp (show z < 2 ^ 31 by omega)
    have cz2 : ¬ nI z < 0 := nI_pos (by omega)
    show am_wp _ (_, [_, _, _, _, _, _], _) _ _
    refine w_aload_n s120_0 rfl ?_
    refine w_iload_n s120_1 rfl ?_
    refine w_callV1r s120_2 (hw 0 _ rfl) ow118 mc120_118 rfl rfl (c118c hw j hj cz) ?_
    refine w_istore s120_5 rfl ?_
    show am_wp _ (_, [_, _, _, _, _, _], _) _ _
    refine w_iload s120_7 rfl ?_
    refine w_ifge s120_9 rfl  (fun c9 => ?_) (fun c => absurd c (by decide))
    refine w_iload_n s120_15 rfl ?_
    refine w_iconst (v := 0) s120_16 rfl ?_
    refine w_aload_n s120_17 rfl ?_
    refine w_getf s120_18 (hw 0 _ rfl) rfl ?_
    refine w_iload_n s120_21 rfl ?_
    refine w_ialdV (y := j) (v := nI z) s120_22 (hw 9 _ rfl) (by omega) (by decide) ez ?_
    refine w_iconst (v := 1) s120_23 rfl ?_
    refine w_isub s120_24 rfl ?_
    refine w_callS3r s120_25 mc120_103 rfl rfl (c103 _ _ _ _) ?_
    rw [x_in_ix (show z < 2 ^ 31 by omega)]
    refine w_ifneB s120_28 rfl  (fun c28 => ?_) (fun c28 => ?_)
    · skip
      obtain ⟨k, hk, rfl⟩ := x_ix_i c28
      have hk2 := nI_clamp (show k < 2 ^ 31 by omega)
      refine w_aload_n s120_37 rfl ?_
      refine w_getf s120_38 (hw 0 _ rfl) rfl ?_
      refine w_bipush (v := 80) s120_41 rfl ?_
      refine w_iload_n s120_43 rfl ?_
      refine w_imulN (x := 80) (y := j) s120_44 ?_
      refine w_iload_n s120_45 rfl ?_
      refine w_iaddN (x := (80 * j)) (y := k) s120_46 ?_
      refine w_ialdN (y := ((80 * j) + k)) s120_47 (hw 10 _ rfl) (by omega) (by decide) ?_
      refine w_istore s120_48 rfl ?_
      show am_wp _ (_, [_, _, _, _, _, _], _) _ _
      refine w_aload_n s120_50 rfl ?_
      refine w_getf s120_51 (hw 0 _ rfl) rfl ?_
      refine w_bipush (v := 80) s120_54 rfl ?_
      refine w_iload_n s120_56 rfl ?_
      refine w_imulN (x := 80) (y := j) s120_57 ?_
      refine w_iload_n s120_58 rfl ?_
      refine w_iaddN (x := (80 * j)) (y := k) s120_59 ?_
      refine w_iload_n s120_60 rfl ?_
      refine w_i2b s120_61 rfl ?_
      refine m_st14 (y := ((80 * j) + k)) s120_62 hw fr (by omega) (fun h hw fr => ?_)
      refine w_iload s120_63 rfl ?_
      refine w_sipush (v := 1000) s120_65 rfl ?_
      refine w_iadd s120_68 rfl ?_
      refine w_iret s120_69 rk120 ?_
      exact mq_end (by simp [S_lay, *] <;> first | rfl | exact ⟨rfl, rfl⟩ | exact ⟨rfl, rfl, rfl⟩) hw fr
    · skip
      refine w_aload_n s120_31 rfl ?_
      refine w_iconst (v := 2) s120_32 rfl ?_
      refine w_callV1 s120_33 (hw 0 _ rfl) ow104 mc120_104 rfl rfl (c104 hw 2 (by decide)) ?_
      rintro v h ⟨rfl, hw, fr2⟩
      replace fr := fr.tr fr2
      clear fr2
      show am_wp _ (_, _, Value.int (-3) :: _) _ _
      refine w_iret s120_36 rk120 ?_
      exact mq_end (by simp [S_lay, *] <;> first | rfl | exact ⟨rfl, rfl⟩ | exact ⟨rfl, rfl, rfl⟩) hw fr
theorem c121 {h : am_H} {cc : Nat → Nat} {aa : Nat → Nat → Int32} (hw : MW h cc aa) (iv : IV cc aa) (s : Int32) : am_ev 121 [.ref 27, .int s] h (mQ h (S_tear cc aa s)) := by
  have fr := mFr.rf h
  have n0 := iv.n0
  have n2 := iv.n2
  have n3 := iv.n3
  have n7 := iv.n7
  have n8 := iv.n8
  have n16 := iv.n16
  have n20 := iv.n20
  have n28 := iv.n28
  have n31 := iv.n31
  have n38 := iv.n38
  have n45 := iv.n45
  rcases x_lk s aa with cs | ⟨j, hj, rfl, cz⟩ | ⟨j, hj, rfl, cz⟩
  · skip
    skip
    show am_wp _ (_, [_, _, _], _) _ _
    refine w_aload_n s121_0 rfl ?_
    refine w_iload_n s121_1 rfl ?_
    refine w_callV1r s121_2 (hw 0 _ rfl) ow118 mc121_118 rfl rfl (c118a hw _ cs) ?_
    refine w_istore_n s121_5 rfl ?_
    show am_wp _ (_, [_, _, _], _) _ _
    refine w_iload_n s121_6 rfl ?_
    refine w_ifge s121_7 rfl  (fun c => absurd c (by decide)) (fun c7 => ?_)
    refine w_iload_n s121_10 rfl ?_
    refine w_iret s121_11 rk121 ?_
    exact mq_end (by simp [S_tear, *] <;> first | rfl | exact ⟨rfl, rfl⟩ | exact ⟨rfl, rfl, rfl⟩) hw fr
  · skip
    have cs := x_in3 hj
    have hj2 := nI_clamp (show j < 2 ^ 31 by omega)
    show am_wp _ (_, [_, _, _], _) _ _
    refine w_aload_n s121_0 rfl ?_
    refine w_iload_n s121_1 rfl ?_
    refine w_callV1 s121_2 (hw 0 _ rfl) ow118 mc121_118 rfl rfl (c118b hw j hj cz) ?_
    rintro v h ⟨rfl, hw, fr2⟩
    replace fr := fr.tr fr2
    clear fr2
    show am_wp _ (_, _, Value.int (-3) :: _) _ _
    refine w_istore_n s121_5 rfl ?_
    show am_wp _ (_, [_, _, _], _) _ _
    refine w_iload_n s121_6 rfl ?_
    refine w_ifge s121_7 rfl  (fun c => absurd c (by decide)) (fun c7 => ?_)
    refine w_iload_n s121_10 rfl ?_
    refine w_iret s121_11 rk121 ?_
    exact mq_end (by simp [S_tear, *] <;> first | rfl | exact ⟨rfl, rfl⟩ | exact ⟨rfl, rfl, rfl⟩) hw fr
  · skip
    have cs := x_in3 hj
    have hj2 := nI_clamp (show j < 2 ^ 31 by omega)
    obtain ⟨z, hz, ez⟩ : ∃ z, z ≤ 80 ∧ aa 13 j = nI z := (iv.sz j hj).resolve_left (fun e => cz (by rw [e]; decide))
    have hz2 := nI_clamp (show z < 2 ^ 31 by omega)
    have cz2 : ¬ nI z < 0 := nI_pos (by omega)
    show am_wp _ (_, [_, _, _], _) _ _
    refine w_aload_n s121_0 rfl ?_
    refine w_iload_n s121_1 rfl ?_
    refine w_callV1r s121_2 (hw 0 _ rfl) ow118 mc121_118 rfl rfl (c118c hw j hj cz) ?_
    refine w_istore_n s121_5 rfl ?_
    show am_wp _ (_, [_, _, _], _) _ _
    refine w_iload_n s121_6 rfl ?_
    refine w_ifge s121_7 rfl  (fun c7 => ?_) (fun c => absurd c (by decide))
    refine w_aload_n s121_12 rfl ?_
    refine w_getf s121_13 (hw 0 _ rfl) rfl ?_
    refine w_iload_n s121_16 rfl ?_
    refine w_bipush (v := (-9)) s121_17 rfl ?_
    refine m_st13 (y := j) s121_19 hw fr (by omega) (fun h hw fr => ?_)
    refine w_iconst (v := 1) s121_20 rfl ?_
    refine w_iret s121_21 rk121 ?_
    exact mq_end (by simp [S_tear, *] <;> first | rfl | exact ⟨rfl, rfl⟩ | exact ⟨rfl, rfl, rfl⟩) hw fr
/-- the sign at a place of a sheet; 0 beyond -/
def x_sg (aa : Nat → Nat → Int32) (s k : Nat) : Int32 := if k < tn (aa 13 s) then aa 14 (80 * s + k) else 0
def x_sf (aa : Nat → Nat → Int32) (s k : Nat) : Bool := x_sign (x_sg aa s k)
/-- how many in a row from i on, of at most n -/
def x_rl (f : Nat → Bool) (i : Nat) : Nat → Nat
  | 0 => 0
  | n + 1 => if f i = true then x_rl f (i + 1) n + 1 else 0
theorem x_rl_le (f : Nat → Bool) : ∀ (n i : Nat), x_rl f i n ≤ n
  | 0, _ => Nat.le_refl 0
  | n + 1, i => by
    unfold x_rl
    split
    · exact Nat.succ_le_succ (x_rl_le f n (i + 1))
    · exact Nat.zero_le _
theorem x_rl_t (f : Nat → Bool) : ∀ (n i k : Nat), k < x_rl f i n → f (i + k) = true
  | 0, _, _, h => by cases h
  | n + 1, i, k, h => by
    unfold x_rl at h
    split at h
    · next c =>
      cases k with
      | zero => exact c
      | succ k =>
        have := x_rl_t f n (i + 1) k (by omega)
        rw [show i + (k + 1) = i + 1 + k by omega]
        exact this
    · cases h
theorem x_rl_f (f : Nat → Bool) {m : Nat} (hm : ∀ k, m ≤ k → f k = false) : ∀ (n i : Nat), m < i + n → f (i + x_rl f i n) = false
  | 0, i, h => hm _ (by omega)
  | n + 1, i, h => by
    unfold x_rl
    split
    · have := x_rl_f f hm n (i + 1) (by omega)
      rw [show i + (x_rl f (i + 1) n + 1) = i + 1 + x_rl f (i + 1) n by omega]
      exact this
    · next c => simpa using c
theorem x_rl_b (f : Nat → Bool) {m : Nat} (hm : ∀ k, m ≤ k → f k = false) (n i : Nat) (hi : i ≤ m) : i + x_rl f i n ≤ m := by
  apply Nat.le_of_not_lt
  intro h
  have h0 : 0 < x_rl f i n := by omega
  have := x_rl_t f n i (x_rl f i n - 1) (by omega)
  rw [hm _ (by omega)] at this
  cases this
/-- the length of the piece that starts at i; 0 where none does -/
def x_pl (aa : Nat → Nat → Int32) (s i : Nat) : Nat := x_rl (x_sf aa s) i 81
def x_pc (aa : Nat → Nat → Int32) (s i : Nat) : Nat := if 0 < i ∧ x_sf aa s (i - 1) = true then 0 else x_pl aa s i
theorem x_sf_o (aa : Nat → Nat → Int32) (s : Nat) {z : Nat} (hz : tn (aa 13 s) = z) : ∀ k, z ≤ k → x_sf aa s k = false := by
  intro k hk
  unfold x_sf x_sg
  rw [hz, if_neg (by omega)]
  decide
def x_wf (aa : Nat → Nat → Int32) (s i : Nat) : Int32 := if x_pc aa s i = 0 then 0 else if x_in (x_sg aa s i) 48 57 = true then nI ((x_pc aa s i + 2) / 3) else 1
def x_wo (aa : Nat → Nat → Int32) (s : Nat) : Int32 := x_sum (x_wf aa s) (tn (aa 13 s))
def S_words (cc : Nat → Nat) (aa : Nat → Nat → Int32) (s : Int32) : x_A := if x_in s 0 3 = true then (if aa 13 (tn s) < 0 then S_meets cc aa 1 else (x_wo aa (tn s), cc, aa)) else (-1, cc, aa)
theorem c126 {h : am_H} {cc : Nat → Nat} {aa : Nat → Nat → Int32} (hw : MW h cc aa) (s z : Nat) (hs : s < 4) (hz : z ≤ 80) (ez : aa 13 s = nI z) (k : Nat) (hk : k ≤ 200) : am_rd 126 [.ref 27, .int (nI s), .int (nI k)] h (.int (x_sg aa s k)) := by
  have hz2 := nI_clamp (show z < 2 ^ 31 by omega)
  show am_wp _ (_, [_, _, _], _) _ _
  refine w_iload_n s126_0 rfl ?_
  refine w_iconst (v := 0) s126_1 rfl ?_
  refine w_aload_n s126_2 rfl ?_
  refine w_getf s126_3 (hw 0 _ rfl) rfl ?_
  refine w_iload_n s126_6 rfl ?_
  refine w_ialdV (y := s) (v := nI z) s126_7 (hw 9 _ rfl) (by omega) (by decide) ez ?_
  refine w_iconst (v := 1) s126_8 rfl ?_
  refine w_isub s126_9 rfl ?_
  refine w_callS3r s126_10 mc126_103 rfl rfl (c103 _ _ _ _) ?_
  rw [x_in_ix (show z < 2 ^ 31 by omega)]
  refine w_ifeqB s126_13 rfl  (fun c13 => ?_) (fun c13 => ?_)
  · skip
    have hk2 : ¬ k < z := fun d => by rw [x_ix_n d (by omega)] at c13; cases c13
    refine w_iconst (v := 0) s126_30 rfl ?_
    refine w_iret s126_31 rk126 ?_
    exact ⟨by simp [x_sg, *], rfl⟩
  · skip
    obtain ⟨j, hj, ej⟩ := x_ix_i c13
    have hk3 : k = j := (nI_eq (by omega) (by omega)).mp ej
    have hk2 : k < z := by omega
    refine w_aload_n s126_16 rfl ?_
    refine w_getf s126_17 (hw 0 _ rfl) rfl ?_
    refine w_bipush (v := 80) s126_20 rfl ?_
    refine w_iload_n s126_22 rfl ?_
    refine w_imulN (x := 80) (y := s) s126_23 ?_
    refine w_iload_n s126_24 rfl ?_
    refine w_iaddN (x := (80 * s)) (y := k) s126_25 ?_
    refine w_ialdN (y := ((80 * s) + k)) s126_26 (hw 10 _ rfl) (by omega) (by decide) ?_
    refine w_goto s126_27 rfl ?_
    refine w_iret s126_31 rk126 ?_
    exact ⟨by simp [x_sg, *], rfl⟩
theorem c126m {h : am_H} {cc : Nat → Nat} {aa : Nat → Nat → Int32} (hw : MW h cc aa) (s z : Nat) (hs : s < 4) (hz : z ≤ 80) (ez : aa 13 s = nI z) : am_rd 126 [.ref 27, .int (nI s), .int (-1)] h (.int 0) := by
  show am_wp _ (_, [_, _, _], _) _ _
  refine w_iload_n s126_0 rfl ?_
  refine w_iconst (v := 0) s126_1 rfl ?_
  refine w_aload_n s126_2 rfl ?_
  refine w_getf s126_3 (hw 0 _ rfl) rfl ?_
  refine w_iload_n s126_6 rfl ?_
  refine w_ialdV (y := s) (v := nI z) s126_7 (hw 9 _ rfl) (by omega) (by decide) ez ?_
  refine w_iconst (v := 1) s126_8 rfl ?_
  refine w_isub s126_9 rfl ?_
  refine w_callS3r s126_10 mc126_103 rfl rfl (c103 _ _ _ _) ?_
  rw [x_in_ix (show z < 2 ^ 31 by omega)]
  refine w_ifeqB s126_13 rfl  (fun c13 => ?_) (fun c => False.elim (by revert c; unfold x_ix; rw [show (-1 : Int32).toInt = -1 from rfl]; simp))
  refine w_iconst (v := 0) s126_30 rfl ?_
  refine w_iret s126_31 rk126 ?_
  exact ⟨rfl, rfl⟩
theorem c127 {h : am_H} {cc : Nat → Nat} {aa : Nat → Nat → Int32} (hw : MW h cc aa) (s z : Nat) (hs : s < 4) (hz : z ≤ 80) (ez : aa 13 s = nI z) (i : Nat) (hi80 : i ≤ 80) : am_rd 127 [.ref 27, .int (nI s), .int (nI i)] h (.int (nI (x_pc aa s i))) := by
  have hz2 := nI_clamp (show z < 2 ^ 31 by omega)
  have ho : ∀ k, z ≤ k → x_sf aa s k = false := x_sf_o aa s (by rw [ez]; exact hz2)
  have hl : x_pl aa s i ≤ 81 := x_rl_le _ _ _
  have htr : ∀ k, k < x_pl aa s i → x_sf aa s (i + k) = true := fun k hk => x_rl_t _ _ _ _ hk
  have hfa : x_sf aa s (i + x_pl aa s i) = false := x_rl_f _ (m := 80) (fun k hk => ho k (by omega)) _ _ (by omega)
  rcases Nat.eq_zero_or_pos i with h0 | h0
  · skip
    have e0 : nI i - 1 = -1 := by rw [h0]; rfl
    have ep : x_pc aa s i = x_pl aa s i := if_neg (by omega)
    show am_wp _ (_, [_, _, _, _], _) _ _
    refine w_aload_n s127_0 rfl ?_
    refine w_iload_n s127_1 rfl ?_
    refine w_iload_n s127_2 rfl ?_
    refine w_iconst (v := 1) s127_3 rfl ?_
    refine w_isub s127_4 e0 ?_
    refine w_callV2r s127_5 (hw 0 _ rfl) ow126 mc127_126 rfl rfl (c126m hw s z hs hz ez) ?_
    refine w_callS1r s127_8 mc127_125 rfl rfl (c125 _ _) ?_
    refine w_ifeqB s127_11 rfl  (fun c11 => ?_) (fun c => False.elim (by revert c; decide))
    refine w_iconst (v := 0) s127_16 rfl ?_
    refine w_istore_n s127_17 rfl ?_
    show am_wp _ (_, [_, _, _, _], _) _ _
    refine am_lp (n := x_pl aa s i) (P := fun n => am_wp 127 (18, [_, _, _, some (.int (nI n))], []) h _) ?_ 0 (Nat.zero_le _)
    intro n hn ihn
    show am_wp _ (_, [_, _, _, _], _) _ _
    refine w_aload_n s127_18 rfl ?_
    refine w_iload_n s127_19 rfl ?_
    refine w_iload_n s127_20 rfl ?_
    refine w_iload_n s127_21 rfl ?_
    refine w_iaddN (x := i) (y := n) s127_22 ?_
    refine w_callV2r s127_23 (hw 0 _ rfl) ow126 mc127_126 rfl rfl (c126 hw s z hs hz ez _ (by omega)) ?_
    refine w_callS1r s127_26 mc127_125 rfl rfl (c125 _ _) ?_
    refine w_ifeqB s127_29 rfl  (fun c29 => ?_) (fun c29 => ?_)
    · skip
      have e : n = x_pl aa s i := by
        rcases Nat.lt_or_ge n (x_pl aa s i) with d | d
        · have := htr n d
          rw [show x_sf aa s (i + n) = false from c29] at this
          cases this
        · omega
      subst e
      refine w_iload_n s127_38 rfl ?_
      refine w_iret s127_39 rk127 ?_
      exact ⟨by rw [ep], rfl⟩
    · skip
      have hn9 : n < x_pl aa s i := by
        rcases Nat.lt_or_ge n (x_pl aa s i) with d | d
        · exact d
        · have e : n = x_pl aa s i := by omega
          rw [← e, show x_sf aa s (i + n) = true from c29] at hfa
          cases hfa
      refine w_iinc s127_32 rfl (nI_inc (n)) rfl ?_
      show am_wp _ (_, [_, _, _, _], _) _ _
      refine w_goto s127_35 rfl ?_
      exact ihn (by omega)
  · skip
    have e0 : nI i - 1 = nI (i - 1) := pk_sub (b := 1) h0
    show am_wp _ (_, [_, _, _, _], _) _ _
    refine w_aload_n s127_0 rfl ?_
    refine w_iload_n s127_1 rfl ?_
    refine w_iload_n s127_2 rfl ?_
    refine w_iconst (v := 1) s127_3 rfl ?_
    refine w_isub s127_4 e0 ?_
    refine w_callV2r s127_5 (hw 0 _ rfl) ow126 mc127_126 rfl rfl (c126 hw s z hs hz ez _ (by omega)) ?_
    refine w_callS1r s127_8 mc127_125 rfl rfl (c125 _ _) ?_
    refine w_ifeqB s127_11 rfl  (fun c11 => ?_) (fun c11 => ?_)
    · skip
      have ep : x_pc aa s i = x_pl aa s i := if_neg (fun d => by rw [show x_sf aa s (i - 1) = false from c11] at d; exact absurd d.2 (by decide))
      refine w_iconst (v := 0) s127_16 rfl ?_
      refine w_istore_n s127_17 rfl ?_
      show am_wp _ (_, [_, _, _, _], _) _ _
      refine am_lp (n := x_pl aa s i) (P := fun n => am_wp 127 (18, [_, _, _, some (.int (nI n))], []) h _) ?_ 0 (Nat.zero_le _)
      intro n hn ihn
      show am_wp _ (_, [_, _, _, _], _) _ _
      refine w_aload_n s127_18 rfl ?_
      refine w_iload_n s127_19 rfl ?_
      refine w_iload_n s127_20 rfl ?_
      refine w_iload_n s127_21 rfl ?_
      refine w_iaddN (x := i) (y := n) s127_22 ?_
      refine w_callV2r s127_23 (hw 0 _ rfl) ow126 mc127_126 rfl rfl (c126 hw s z hs hz ez _ (by omega)) ?_
      refine w_callS1r s127_26 mc127_125 rfl rfl (c125 _ _) ?_
      refine w_ifeqB s127_29 rfl  (fun c29 => ?_) (fun c29 => ?_)
      · skip
        have e : n = x_pl aa s i := by
          rcases Nat.lt_or_ge n (x_pl aa s i) with d | d
          · have := htr n d
            rw [show x_sf aa s (i + n) = false from c29] at this
            cases this
          · omega
        subst e
        refine w_iload_n s127_38 rfl ?_
        refine w_iret s127_39 rk127 ?_
        exact ⟨by rw [ep], rfl⟩
      · skip
        have hn9 : n < x_pl aa s i := by
          rcases Nat.lt_or_ge n (x_pl aa s i) with d | d
          · exact d
          · have e : n = x_pl aa s i := by omega
            rw [← e, show x_sf aa s (i + n) = true from c29] at hfa
            cases hfa
        refine w_iinc s127_32 rfl (nI_inc (n)) rfl ?_
        show am_wp _ (_, [_, _, _, _], _) _ _
        refine w_goto s127_35 rfl ?_
        exact ihn (by omega)
    · skip
      have ep : x_pc aa s i = 0 := if_pos ⟨h0, c11⟩
      refine w_iconst (v := 0) s127_14 rfl ?_
      refine w_iret s127_15 rk127 ?_
      exact ⟨by rw [ep]; rfl, rfl⟩
theorem c128 {h : am_H} {cc : Nat → Nat} {aa : Nat → Nat → Int32} (hw : MW h cc aa) (s z : Nat) (hs : s < 4) (hz : z ≤ 80) (ez : aa 13 s = nI z) : am_rd 128 [.ref 27, .int (nI s)] h (.int (x_wo aa s)) := by
  have hz2 := nI_clamp (show z < 2 ^ 31 by omega)
  have hwo : x_wo aa s = x_sum (x_wf aa s) z := by unfold x_wo; rw [ez, show tn (nI z) = z from hz2]
  rw [hwo]
  have hp : ∀ i, x_pc aa s i ≤ 81 := fun i => by
    unfold x_pc
    split
    · exact Nat.zero_le _
    · exact x_rl_le _ _ _
  show am_wp _ (_, [_, _, _, _, _], _) _ _
  refine w_iconst (v := 0) s128_0 rfl ?_
  refine w_istore_n s128_1 rfl ?_
  show am_wp _ (_, [_, _, _, _, _], _) _ _
  refine w_iconst (v := 0) s128_2 rfl ?_
  refine w_istore_n s128_3 rfl ?_
  show am_wp _ (_, [_, _, _, _, _], _) _ _
  refine am_lp (n := z) (P := fun i => ∀ v4 : Option Value, am_wp 128 (4, [_, _, some (.int (x_sum (x_wf aa s) i)), some (.int (nI i)), v4], []) h _) ?_ 0 (Nat.zero_le _) _
  intro i hi ihi v4
  show am_wp _ (_, [_, _, _, _, _], _) _ _
  refine w_iload_n s128_4 rfl ?_
  refine w_aload_n s128_5 rfl ?_
  refine w_getf s128_6 (hw 0 _ rfl) rfl ?_
  refine w_iload_n s128_9 rfl ?_
  refine w_ialdV (y := s) (v := nI z) s128_10 (hw 9 _ rfl) (by omega) (by decide) ez ?_
  refine w_icmpgeN (x := i) (y := z) s128_11 rfl (by omega) (by omega)  (fun c11 => ?_) (fun c11 => ?_)
  · skip
    have e : i = z := by omega
    subst e
    refine w_iload_n s128_62 rfl ?_
    refine w_iret s128_63 rk128 ?_
    exact ⟨rfl, rfl⟩
  · skip
    refine w_aload_n s128_14 rfl ?_
    refine w_iload_n s128_15 rfl ?_
    refine w_iload_n s128_16 rfl ?_
    refine w_callV2r s128_17 (hw 0 _ rfl) ow127 mc128_127 rfl rfl (c127 hw s z hs hz ez _ (by omega)) ?_
    refine w_istore s128_20 rfl ?_
    show am_wp _ (_, [_, _, _, _, _], _) _ _
    refine w_iload_n s128_22 rfl ?_
    refine w_iload s128_23 rfl ?_
    have hpi := hp i
    refine w_ifneN (x := (x_pc aa s i)) s128_25 rfl (by omega)  (fun c25 => ?_) (fun c25 => ?_)
    · skip
      refine w_aload_n s128_32 rfl ?_
      refine w_iload_n s128_33 rfl ?_
      refine w_iload_n s128_34 rfl ?_
      refine w_callV2r s128_35 (hw 0 _ rfl) ow126 mc128_126 rfl rfl (c126 hw s z hs hz ez _ (by omega)) ?_
      refine w_callS1r s128_38 mc128_123 rfl rfl (c123 _ _) ?_
      refine w_ifeqB s128_41 rfl  (fun c41 => ?_) (fun c41 => ?_)
      · skip
        refine w_iconst (v := 1) s128_53 rfl ?_
        refine w_iadd s128_54 rfl ?_
        refine w_istore_n s128_55 rfl ?_
        show am_wp _ (_, [_, _, _, _, _], _) _ _
        refine w_iinc s128_56 rfl (nI_inc (i)) rfl ?_
        show am_wp _ (_, [_, _, _, _, _], _) _ _
        refine w_goto s128_59 rfl ?_
        refine am_wp_l (am_cons rfl (am_cons rfl (am_cons (am_si ?_) (am_cons rfl (am_cons rfl rfl))))) (ihi (by omega) _)
        all_goals first | (clear ihi; simp [x_sum_s, x_wf, *]; done) | (clear ihi; simp_all [x_sum_s, x_wf]; done)
      · skip
        refine w_iload s128_44 rfl ?_
        refine w_iconst (v := 2) s128_46 rfl ?_
        refine w_iaddN (x := (x_pc aa s i)) (y := 2) s128_47 ?_
        refine w_iconst (v := 3) s128_48 rfl ?_
        refine w_idivN (x := ((x_pc aa s i) + 2)) (y := 3) s128_49 (by omega) (by omega) (by omega) ?_
        refine w_goto s128_50 rfl ?_
        refine w_iadd s128_54 rfl ?_
        refine w_istore_n s128_55 rfl ?_
        show am_wp _ (_, [_, _, _, _, _], _) _ _
        refine w_iinc s128_56 rfl (nI_inc (i)) rfl ?_
        show am_wp _ (_, [_, _, _, _, _], _) _ _
        refine w_goto s128_59 rfl ?_
        refine am_wp_l (am_cons rfl (am_cons rfl (am_cons (am_si ?_) (am_cons rfl (am_cons rfl rfl))))) (ihi (by omega) _)
        all_goals first | (clear ihi; simp [x_sum_s, x_wf, *]; done) | (clear ihi; simp_all [x_sum_s, x_wf]; done)
    · skip
      refine w_iconst (v := 0) s128_28 rfl ?_
      refine w_goto s128_29 rfl ?_
      refine w_iadd s128_54 rfl ?_
      refine w_istore_n s128_55 rfl ?_
      show am_wp _ (_, [_, _, _, _, _], _) _ _
      refine w_iinc s128_56 rfl (nI_inc (i)) rfl ?_
      show am_wp _ (_, [_, _, _, _, _], _) _ _
      refine w_goto s128_59 rfl ?_
      refine am_wp_l (am_cons rfl (am_cons rfl (am_cons (am_si ?_) (am_cons rfl (am_cons rfl rfl))))) (ihi (by omega) _)
      all_goals first | (clear ihi; simp [x_sum_s, x_wf, *]; done) | (clear ihi; simp_all [x_sum_s, x_wf]; done)
theorem c129 {h : am_H} {cc : Nat → Nat} {aa : Nat → Nat → Int32} (hw : MW h cc aa) (iv : IV cc aa) (s : Int32) : am_ev 129 [.ref 27, .int s] h (mQ h (S_words cc aa s)) := by
  have fr := mFr.rf h
  have n0 := iv.n0
  have n2 := iv.n2
  have n3 := iv.n3
  have n7 := iv.n7
  have n8 := iv.n8
  have n16 := iv.n16
  have n20 := iv.n20
  have n28 := iv.n28
  have n31 := iv.n31
  have n38 := iv.n38
  have n45 := iv.n45
  rcases x_lk s aa with cs | ⟨j, hj, rfl, cz⟩ | ⟨j, hj, rfl, cz⟩
  · skip
    skip
    show am_wp _ (_, [_, _, _], _) _ _
    refine w_aload_n s129_0 rfl ?_
    refine w_iload_n s129_1 rfl ?_
    refine w_callV1r s129_2 (hw 0 _ rfl) ow118 mc129_118 rfl rfl (c118a hw _ cs) ?_
    refine w_istore_n s129_5 rfl ?_
    show am_wp _ (_, [_, _, _], _) _ _
    refine w_iload_n s129_6 rfl ?_
    refine w_ifge s129_7 rfl  (fun c => absurd c (by decide)) (fun c7 => ?_)
    refine w_iload_n s129_10 rfl ?_
    refine w_goto s129_11 rfl ?_
    refine w_iret s129_19 rk129 ?_
    exact mq_end (by simp [S_words, *] <;> first | rfl | exact ⟨rfl, rfl⟩ | exact ⟨rfl, rfl, rfl⟩) hw fr
  · skip
    have cs := x_in3 hj
    have hj2 := nI_clamp (show j < 2 ^ 31 by omega)
    show am_wp _ (_, [_, _, _], _) _ _
    refine w_aload_n s129_0 rfl ?_
    refine w_iload_n s129_1 rfl ?_
    refine w_callV1 s129_2 (hw 0 _ rfl) ow118 mc129_118 rfl rfl (c118b hw j hj cz) ?_
    rintro v h ⟨rfl, hw, fr2⟩
    replace fr := fr.tr fr2
    clear fr2
    show am_wp _ (_, _, Value.int (-3) :: _) _ _
    refine w_istore_n s129_5 rfl ?_
    show am_wp _ (_, [_, _, _], _) _ _
    refine w_iload_n s129_6 rfl ?_
    refine w_ifge s129_7 rfl  (fun c => absurd c (by decide)) (fun c7 => ?_)
    refine w_iload_n s129_10 rfl ?_
    refine w_goto s129_11 rfl ?_
    refine w_iret s129_19 rk129 ?_
    exact mq_end (by simp [S_words, *] <;> first | rfl | exact ⟨rfl, rfl⟩ | exact ⟨rfl, rfl, rfl⟩) hw fr
  · skip
    have cs := x_in3 hj
    have hj2 := nI_clamp (show j < 2 ^ 31 by omega)
    obtain ⟨z, hz, ez⟩ : ∃ z, z ≤ 80 ∧ aa 13 j = nI z := (iv.sz j hj).resolve_left (fun e => cz (by rw [e]; decide))
    have hz2 := nI_clamp (show z < 2 ^ 31 by omega)
    have cz2 : ¬ nI z < 0 := nI_pos (by omega)
    show am_wp _ (_, [_, _, _], _) _ _
    refine w_aload_n s129_0 rfl ?_
    refine w_iload_n s129_1 rfl ?_
    refine w_callV1r s129_2 (hw 0 _ rfl) ow118 mc129_118 rfl rfl (c118c hw j hj cz) ?_
    refine w_istore_n s129_5 rfl ?_
    show am_wp _ (_, [_, _, _], _) _ _
    refine w_iload_n s129_6 rfl ?_
    refine w_ifge s129_7 rfl  (fun c7 => ?_) (fun c => absurd c (by decide))
    refine w_aload_n s129_14 rfl ?_
    refine w_iload_n s129_15 rfl ?_
    refine w_callV1r s129_16 (hw 0 _ rfl) ow128 mc129_128 rfl rfl (c128 hw j z hj hz ez) ?_
    refine w_iret s129_19 rk129 ?_
    exact mq_end (by simp [S_words, *] <;> first | rfl | exact ⟨rfl, rfl⟩ | exact ⟨rfl, rfl, rfl⟩) hw fr
