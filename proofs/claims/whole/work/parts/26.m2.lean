/-! the reference's calls, the first ones -/
theorem MW.cg {h : am_H} {cc cc' : Nat → Nat} {aa aa' : Nat → Nat → Int32} (e1 : cc = cc') (e2 : aa = aa') (hw : MW h cc aa) : MW h cc' aa' := e1 ▸ e2 ▸ hw
theorem ua_id (aa : Nat → Nat → Int32) (p : Nat) : ua aa p (aa p) = aa := by
  funext q
  unfold ua
  split
  · next e => rw [e]
  · rfl
theorem ua_ua (aa : Nat → Nat → Int32) (p : Nat) (f g : Nat → Int32) : ua (ua aa p f) p g = ua aa p g := by
  funext q
  unfold ua
  split <;> rfl
theorem ua_s (aa : Nat → Nat → Int32) (p : Nat) (f : Nat → Int32) : ua aa p f p = f := if_pos rfl
theorem ua_n (aa : Nat → Nat → Int32) {p q : Nat} (f : Nat → Int32) (h : q ≠ p) : ua aa p f q = aa q := if_neg h
theorem uc_s (cc : Nat → Nat) (p v : Nat) : uc cc p v p = v := if_pos rfl
theorem uc_n (cc : Nat → Nat) {p q : Nat} (v : Nat) (h : q ≠ p) : uc cc p v q = cc q := if_neg h
theorem x_in3 {j : Nat} (hj : j < 4) : x_in (nI j) 0 3 = true := by
  rw [show (0 : Int32) = nI 0 from rfl, show (3 : Int32) = nI 3 from rfl, x_in_m (by decide) (by decide) (by omega)]
  exact decide_eq_true (by omega)
theorem x_lk (s : Int32) (aa : Nat → Nat → Int32) : x_in s 0 3 = false ∨ (∃ j, j < 4 ∧ s = nI j ∧ aa 13 j < 0) ∨ (∃ j, j < 4 ∧ s = nI j ∧ ¬ aa 13 j < 0) := by
  by_cases c : x_in s 0 3 = true
  · obtain ⟨j, hj, e⟩ := x_in_n (b := 3) c (by decide)
    by_cases d : aa 13 j < 0
    · exact Or.inr (Or.inl ⟨j, by omega, e, d⟩)
    · exact Or.inr (Or.inr ⟨j, by omega, e, d⟩)
  · exact Or.inl (by simpa using c)
theorem x_later {t : Nat} (ht : t ≤ 400) {n : Int32} (h : x_in n 1 (400 - nI t) = true) : ∃ k, 1 ≤ k ∧ t + k ≤ 400 ∧ n = nI k := by
  unfold x_in at h
  rw [← Bool.decide_and] at h
  have h1 := of_decide_eq_true h
  rw [Int32.le_iff_toInt_le, Int32.le_iff_toInt_le, show (400 : Int32) = nI 400 from rfl, pk_sub ht, nI_toInt (by omega)] at h1
  simp only [show (1 : Int32).toInt = 1 from rfl] at h1
  refine ⟨n.toInt.toNat, by omega, by omega, ?_⟩
  apply Int32.toInt_inj.mp
  rw [nI_toInt (by omega)]
  omega
def S_meets (cc : Nat → Nat) (aa : Nat → Nat → Int32) (w : Nat) : x_A := (-3, uc cc 0 w, ua aa 1 (upd (aa 1) w (aa 1 w + 1)))
def x_bits (s : Int32) : Int32 := x_sum (fun k => (s >>> (nI k &&& 31)) &&& 1) 16
def S_square (cc : Nat → Nat) (aa : Nat → Nat → Int32) (x y w : Int32) : x_A := if x_in x 0 60 = true ∧ x_in y 0 60 = true ∧ x_in w 0 127 = true then (if cc 3 = 10 then (-2, cc, aa) else (nI (cc 3), uc cc 3 (cc 3 + 1), ua (ua (ua aa 4 (upd (aa 4) (cc 3) x)) 5 (upd (aa 5) (cc 3) y)) 6 (upd (aa 6) (cc 3) w))) else (-1, cc, aa)
def x_walk (cc : Nat → Nat) (aa : Nat → Nat → Int32) (a b : Int32) : Int32 := if x_ix (cc 3) a = true ∧ x_ix (cc 3) b = true then x_walks aa a b else -1
def x_today (cc : Nat → Nat) (aa : Nat → Nat → Int32) : Bool := x_any (fun i => decide (aa 35 i = nI (cc 2))) (cc 31)
def S_hearing (cc : Nat → Nat) (aa : Nat → Nat → Int32) (n : Int32) : x_A := if x_in n 0 60 = true then (if x_today cc aa = true then (-4, cc, aa) else (nI (cc 7), uc cc 7 (tn n), aa)) else (-1, cc, aa)
def S_later (cc : Nat → Nat) (aa : Nat → Nat → Int32) (n : Int32) : x_A := if x_in n 1 (400 - nI (cc 2)) = true then (nI (cc 2 + tn n), uc cc 2 (cc 2 + tn n), ua aa 30 (fun c => if c < cc 28 then 0 else aa 30 c)) else (-1, cc, aa)
def S_move (cc : Nat → Nat) (aa : Nat → Nat → Int32) (s a b c : Int32) : x_A := if x_ix (cc 3) s = true ∧ x_in a 0 500 = true ∧ x_in b 0 500 = true ∧ x_in c 0 500 = true ∧ ¬ a = b then (if cc 8 = 40 then (-2, cc, aa) else if nI (cc 2) ≤ c then (nI (cc 8 + 1), uc cc 8 (cc 8 + 1), ua (ua (ua (ua aa 9 (upd (aa 9) (cc 8) s)) 10 (upd (aa 10) (cc 8) a)) 11 (upd (aa 11) (cc 8) b)) 12 (upd (aa 12) (cc 8) c)) else (-4, cc, aa)) else (-1, cc, aa)
def x_rem (x y : Int32) : Int32 := x - x / y * y
def x_mkf (aa : Nat → Nat → Int32) (s d k : Int32) (m : Nat) (b : Bool) : Bool := if aa 9 m = s ∧ ¬ k < aa 12 m then (decide (d = aa 11 m) || (b && !decide (d = aa 10 m))) else b
def x_mkt (aa : Nat → Nat → Int32) (s d k : Int32) : Nat → Bool := x_it (x_mkf aa s d k) (x_has (aa 6 (tn s)) (x_rem d 7))
theorem x_mkt_s (aa : Nat → Nat → Int32) (s d k : Int32) (m : Nat) : x_mkt aa s d k (m + 1) = x_mkf aa s d k m (x_mkt aa s d k m) := rfl
def x_market (cc : Nat → Nat) (aa : Nat → Nat → Int32) (s d k : Int32) : Int32 := if x_ix (cc 3) s = true ∧ x_in d 0 500 = true ∧ x_in k 0 500 = true then am_bi (x_mkt aa s d k (cc 8)) else -1
def x_fill0 (f : Nat → Int32) (a n : Nat) : Nat → Int32 := fun k => if a ≤ k ∧ k < a + n then 0 else f k
def S_sheet (cc : Nat → Nat) (aa : Nat → Nat → Int32) (s n : Int32) : x_A := if x_in s 0 3 = true ∧ n ≤ 80 then (if 0 ≤ n then (n, cc, ua (ua aa 13 (upd (aa 13) (tn s) n)) 14 (x_fill0 (aa 14) (80 * tn s) 80)) else S_meets cc aa 5) else (-1, cc, aa)
def S_lay (cc : Nat → Nat) (aa : Nat → Nat → Int32) (s i c : Int32) : x_A := if x_in s 0 3 = true then (if aa 13 (tn s) < 0 then S_meets cc aa 1 else if x_ix (tn (aa 13 (tn s))) i = true then (aa 14 (80 * tn s + tn i) + 1000, cc, ua aa 14 (upd (aa 14) (80 * tn s + tn i) c.toInt8.toInt32)) else S_meets cc aa 2) else (-1, cc, aa)
def S_tear (cc : Nat → Nat) (aa : Nat → Nat → Int32) (s : Int32) : x_A := if x_in s 0 3 = true then (if aa 13 (tn s) < 0 then S_meets cc aa 1 else (1, cc, ua aa 13 (upd (aa 13) (tn s) (-9)))) else (-1, cc, aa)
theorem c104 {h : am_H} {cc : Nat → Nat} {aa : Nat → Nat → Int32} (hw : MW h cc aa) (w : Nat) (h6 : w < 6) : am_ev 104 [.ref 27, .int (nI w)] h (mQ h (S_meets cc aa w)) := by
  have fr := mFr.rf h
  show am_wp _ (_, [_, _], _) _ _
  refine w_aload_n s104_0 rfl ?_
  refine w_iload_n s104_1 rfl ?_
  refine m_pf0 (v := w) s104_2 hw fr (fun h hw fr => ?_)
  refine w_aload_n s104_5 rfl ?_
  refine w_getf s104_6 (hw 0 _ rfl) rfl ?_
  refine w_iload_n s104_9 rfl ?_
  refine w_dup2_ir s104_10 ?_
  refine w_ialdN (y := w) s104_11 (hw 1 _ rfl) (by omega) (by decide) ?_
  refine w_iconst (v := 1) s104_12 rfl ?_
  refine w_iadd s104_13 rfl ?_
  refine m_st1 (y := w) s104_14 hw fr (by omega) (fun h hw fr => ?_)
  refine w_bipush (v := (-3)) s104_15 rfl ?_
  refine w_iret s104_17 rk104 ?_
  exact mq_end rfl hw fr
theorem c106 (s : Int32) (h : am_H) : am_rd 106 [.int s] h (.int (x_bits s)) := by
  show am_wp _ (_, [_, _, _], _) _ _
  refine w_iconst (v := 0) s106_0 rfl ?_
  refine w_istore_n s106_1 rfl ?_
  show am_wp _ (_, [_, _, _], _) _ _
  refine w_iconst (v := 0) s106_2 rfl ?_
  refine w_istore_n s106_3 rfl ?_
  show am_wp _ (_, [_, _, _], _) _ _
  refine am_lp (n := 16) (P := fun i => am_wp 106 (4, [_, some (.int (x_sum (fun k => (s >>> (nI k &&& 31)) &&& 1) i)), some (.int (nI i))], []) h _) ?_ 0 (Nat.zero_le _)
  intro i hi ihi
  show am_wp _ (_, [_, _, _], _) _ _
  refine w_iload_n s106_4 rfl ?_
  refine w_bipush (v := 16) s106_5 rfl ?_
  refine w_icmpgeN (x := i) (y := 16) s106_7 rfl (by omega) (by omega)  (fun c7 => ?_) (fun c7 => ?_)
  · skip
    refine w_iload_n s106_24 rfl ?_
    refine w_iret s106_25 rk106 ?_
    have e : i = 16 := by omega
    subst e
    exact ⟨rfl, rfl⟩
  · skip
    refine w_iload_n s106_10 rfl ?_
    refine w_iload_n s106_11 rfl ?_
    refine w_iload_n s106_12 rfl ?_
    refine w_ishr s106_13 rfl ?_
    refine w_iconst (v := 1) s106_14 rfl ?_
    refine w_iand s106_15 rfl ?_
    refine w_iadd s106_16 rfl ?_
    refine w_istore_n s106_17 rfl ?_
    show am_wp _ (_, [_, _, _], _) _ _
    refine w_iinc s106_18 rfl (nI_inc (i)) rfl ?_
    show am_wp _ (_, [_, _, _], _) _ _
    refine w_goto s106_21 rfl ?_
    exact ihi (by omega)
theorem c108 {h : am_H} {cc : Nat → Nat} {aa : Nat → Nat → Int32} (hw : MW h cc aa) (iv : IV cc aa) (x y w : Int32) : am_ev 108 [.ref 27, .int x, .int y, .int w] h (mQ h (S_square cc aa x y w)) := by
  have fr := mFr.rf h
  have n0 := iv.n0
  have n2 := iv.n2
  have n3 := iv.n3
  have n7 := iv.n7
  have n8 := iv.n8
  have n16 := iv.n16
  have n20 := iv.n20
  have n28 := iv.n28
  have n31 := iv.n31
  have n38 := iv.n38
  have n45 := iv.n45
  show am_wp _ (_, [_, _, _, _], _) _ _
  refine w_iload_n s108_0 rfl ?_
  refine w_iconst (v := 0) s108_1 rfl ?_
  refine w_bipush (v := 60) s108_2 rfl ?_
  refine w_callS3r s108_4 mc108_103 rfl rfl (c103 _ _ _ _) ?_
  refine w_ifeqB s108_7 rfl  (fun c7 => ?_) (fun c7 => ?_)
  · skip
    refine w_iconst (v := (-1)) s108_30 rfl ?_
    refine w_iret s108_31 rk108 ?_
    exact mq_end (by simp [S_square, *] <;> first | rfl | exact ⟨rfl, rfl⟩ | exact ⟨rfl, rfl, rfl⟩) hw fr
  · skip
    refine w_iload_n s108_10 rfl ?_
    refine w_iconst (v := 0) s108_11 rfl ?_
    refine w_bipush (v := 60) s108_12 rfl ?_
    refine w_callS3r s108_14 mc108_103 rfl rfl (c103 _ _ _ _) ?_
    refine w_ifeqB s108_17 rfl  (fun c17 => ?_) (fun c17 => ?_)
    · skip
      refine w_iconst (v := (-1)) s108_30 rfl ?_
      refine w_iret s108_31 rk108 ?_
      exact mq_end (by simp [S_square, *] <;> first | rfl | exact ⟨rfl, rfl⟩ | exact ⟨rfl, rfl, rfl⟩) hw fr
    · skip
      refine w_iload_n s108_20 rfl ?_
      refine w_iconst (v := 0) s108_21 rfl ?_
      refine w_bipush (v := 127) s108_22 rfl ?_
      refine w_callS3r s108_24 mc108_103 rfl rfl (c103 _ _ _ _) ?_
      refine w_ifneB s108_27 rfl  (fun c27 => ?_) (fun c27 => ?_)
      · skip
        refine w_aload_n s108_32 rfl ?_
        refine w_getf s108_33 (hw 0 _ rfl) rfl ?_
        refine w_bipush (v := 10) s108_36 rfl ?_
        refine w_icmpneN (x := cc 3) (y := 10) s108_38 rfl (by omega) (by omega)  (fun c38 => ?_) (fun c38 => ?_)
        · skip
          refine w_aload_n s108_44 rfl ?_
          refine w_getf s108_45 (hw 0 _ rfl) rfl ?_
          refine w_aload_n s108_48 rfl ?_
          refine w_getf s108_49 (hw 0 _ rfl) rfl ?_
          refine w_iload_n s108_52 rfl ?_
          refine m_st4 (y := cc 3) s108_53 hw fr (by omega) (fun h hw fr => ?_)
          refine w_aload_n s108_54 rfl ?_
          refine w_getf s108_55 (hw 0 _ rfl) rfl ?_
          refine w_aload_n s108_58 rfl ?_
          refine w_getf s108_59 (hw 0 _ rfl) rfl ?_
          refine w_iload_n s108_62 rfl ?_
          refine m_st5 (y := cc 3) s108_63 hw fr (by omega) (fun h hw fr => ?_)
          refine w_aload_n s108_64 rfl ?_
          refine w_getf s108_65 (hw 0 _ rfl) rfl ?_
          refine w_aload_n s108_68 rfl ?_
          refine w_getf s108_69 (hw 0 _ rfl) rfl ?_
          refine w_iload_n s108_72 rfl ?_
          refine m_st6 (y := cc 3) s108_73 hw fr (by omega) (fun h hw fr => ?_)
          refine w_aload_n s108_74 rfl ?_
          refine w_dup_r s108_75 ?_
          refine w_getf s108_76 (hw 0 _ rfl) rfl ?_
          refine w_iconst (v := 1) s108_79 rfl ?_
          refine w_iaddN (x := cc 3) (y := 1) s108_80 ?_
          refine m_pf3 (v := (cc 3 + 1)) s108_81 hw fr (fun h hw fr => ?_)
          refine w_aload_n s108_84 rfl ?_
          refine w_getf s108_85 (hw 0 _ rfl) rfl ?_
          refine w_iconst (v := 1) s108_88 rfl ?_
          refine w_isub s108_89 (nI_pred (cc 3)) ?_
          refine w_iret s108_90 rk108 ?_
          exact mq_end (by simp [S_square, *] <;> first | rfl | exact ⟨rfl, rfl⟩ | exact ⟨rfl, rfl, rfl⟩) hw fr
        · skip
          refine w_bipush (v := (-2)) s108_41 rfl ?_
          refine w_iret s108_43 rk108 ?_
          exact mq_end (by simp [S_square, *] <;> first | rfl | exact ⟨rfl, rfl⟩ | exact ⟨rfl, rfl, rfl⟩) hw fr
      · skip
        refine w_iconst (v := (-1)) s108_30 rfl ?_
        refine w_iret s108_31 rk108 ?_
        exact mq_end (by simp [S_square, *] <;> first | rfl | exact ⟨rfl, rfl⟩ | exact ⟨rfl, rfl, rfl⟩) hw fr
theorem c110 {h : am_H} {cc : Nat → Nat} {aa : Nat → Nat → Int32} (hw : MW h cc aa) (iv : IV cc aa) (a b : Int32) : am_rd 110 [.ref 27, .int a, .int b] h (.int (x_walk cc aa a b)) := by
  have n0 := iv.n0
  have n2 := iv.n2
  have n3 := iv.n3
  have n7 := iv.n7
  have n8 := iv.n8
  have n16 := iv.n16
  have n20 := iv.n20
  have n28 := iv.n28
  have n31 := iv.n31
  have n38 := iv.n38
  have n45 := iv.n45
  show am_wp _ (_, [_, _, _], _) _ _
  refine w_aload_n s110_0 rfl ?_
  refine w_iload_n s110_1 rfl ?_
  refine w_callV1r s110_2 (hw 0 _ rfl) ow107 mc110_107 rfl rfl (c107 hw iv _) ?_
  refine w_ifeqB s110_5 rfl  (fun c5 => ?_) (fun c5 => ?_)
  · skip
    refine w_iconst (v := (-1)) s110_25 rfl ?_
    refine w_iret s110_26 rk110 ?_
    exact ⟨by simp [x_walk, *], rfl⟩
  · skip
    refine w_aload_n s110_8 rfl ?_
    refine w_iload_n s110_9 rfl ?_
    refine w_callV1r s110_10 (hw 0 _ rfl) ow107 mc110_107 rfl rfl (c107 hw iv _) ?_
    refine w_ifeqB s110_13 rfl  (fun c13 => ?_) (fun c13 => ?_)
    · skip
      refine w_iconst (v := (-1)) s110_25 rfl ?_
      refine w_iret s110_26 rk110 ?_
      exact ⟨by simp [x_walk, *], rfl⟩
    · skip
      refine w_aload_n s110_16 rfl ?_
      refine w_iload_n s110_17 rfl ?_
      refine w_iload_n s110_18 rfl ?_
      refine w_callV2r s110_19 (hw 0 _ rfl) ow109 mc110_109 rfl rfl (c109 hw n3 _ _ (by assumption) (by assumption)) ?_
      refine w_goto s110_22 rfl ?_
      refine w_iret s110_26 rk110 ?_
      exact ⟨by simp [x_walk, *], rfl⟩
theorem c111 {h : am_H} {cc : Nat → Nat} {aa : Nat → Nat → Int32} (hw : MW h cc aa) (iv : IV cc aa) (n : Int32) : am_ev 111 [.ref 27, .int n] h (mQ h (S_hearing cc aa n)) := by
  have fr := mFr.rf h
  have n0 := iv.n0
  have n2 := iv.n2
  have n3 := iv.n3
  have n7 := iv.n7
  have n8 := iv.n8
  have n16 := iv.n16
  have n20 := iv.n20
  have n28 := iv.n28
  have n31 := iv.n31
  have n38 := iv.n38
  have n45 := iv.n45
  show am_wp _ (_, [_, _, _], _) _ _
  refine w_iload_n s111_0 rfl ?_
  refine w_iconst (v := 0) s111_1 rfl ?_
  refine w_bipush (v := 60) s111_2 rfl ?_
  refine w_callS3r s111_4 mc111_103 rfl rfl (c103 _ _ _ _) ?_
  refine w_ifneB s111_7 rfl  (fun c7 => ?_) (fun c7 => ?_)
  · skip
    obtain ⟨k, hk, rfl⟩ := x_in_n (b := 60) c7 (by decide)
    refine w_iconst (v := 0) s111_12 rfl ?_
    refine w_istore_n s111_13 rfl ?_
    show am_wp _ (_, [_, _, _], _) _ _
    refine am_lp (n := cc 31) (P := fun i => x_any (fun i => decide (aa 35 i = nI (cc 2))) i = false → am_wp 111 (14, [_, _, some (.int (nI i))], []) h _) ?_ 0 (Nat.zero_le _) rfl
    intro i hi ih hz
    show am_wp _ (_, [_, _, _], _) _ _
    refine w_iload_n s111_14 rfl ?_
    refine w_aload_n s111_15 rfl ?_
    refine w_getf s111_16 (hw 0 _ rfl) rfl ?_
    refine w_icmpgeN (x := i) (y := cc 31) s111_19 rfl (by omega) (by omega)  (fun c19 => ?_) (fun c19 => ?_)
    · skip
      have e : i = cc 31 := by omega
      subst e
      have ht : x_today cc aa = false := hz
      refine w_aload_n s111_44 rfl ?_
      refine w_getf s111_45 (hw 0 _ rfl) rfl ?_
      refine w_istore_n s111_48 rfl ?_
      show am_wp _ (_, [_, _, _], _) _ _
      refine w_aload_n s111_49 rfl ?_
      refine w_iload_n s111_50 rfl ?_
      refine m_pf7 (v := k) s111_51 hw fr (fun h hw fr => ?_)
      refine w_iload_n s111_54 rfl ?_
      refine w_iret s111_55 rk111 ?_
      have hk2 := nI_clamp (show k < 2 ^ 31 by omega)
      exact mq_end (by simp [S_hearing, *] <;> first | rfl | exact ⟨rfl, rfl⟩ | exact ⟨rfl, rfl, rfl⟩) hw fr
    · skip
      refine w_aload_n s111_22 rfl ?_
      refine w_getf s111_23 (hw 0 _ rfl) rfl ?_
      refine w_iload_n s111_26 rfl ?_
      refine w_ialdN (y := i) s111_27 (hw 27 _ rfl) (by omega) (by decide) ?_
      refine w_aload_n s111_28 rfl ?_
      refine w_getf s111_29 (hw 0 _ rfl) rfl ?_
      refine w_icmpne s111_32 rfl  (fun c32 => ?_) (fun c32 => ?_)
      · skip
        refine w_iinc s111_38 rfl (nI_inc (i)) rfl ?_
        show am_wp _ (_, [_, _, _], _) _ _
        refine w_goto s111_41 rfl ?_
        exact ih (by omega) (by rw [x_any_s, hz]; simp [*])
      · skip
        refine w_bipush (v := (-4)) s111_35 rfl ?_
        refine w_iret s111_37 rk111 ?_
        have ht : x_today cc aa = true := x_any_t (i := i) (decide_eq_true c32) _ (by omega)
        exact mq_end (by simp [S_hearing, *] <;> first | rfl | exact ⟨rfl, rfl⟩ | exact ⟨rfl, rfl, rfl⟩) hw fr
  · skip
    refine w_iconst (v := (-1)) s111_10 rfl ?_
    refine w_iret s111_11 rk111 ?_
    exact mq_end (by simp [S_hearing, *] <;> first | rfl | exact ⟨rfl, rfl⟩ | exact ⟨rfl, rfl, rfl⟩) hw fr
theorem x_z0 (f : Nat → Int32) : (fun c => if c < 0 then (0 : Int32) else f c) = f := by
  funext c
  exact if_neg (Nat.not_lt_zero c)
theorem x_zs (f : Nat → Int32) (i : Nat) : upd (fun c => if c < i then (0 : Int32) else f c) i 0 = (fun c => if c < i + 1 then 0 else f c) := by
  funext c
  by_cases e : c = i
  · subst e
    rw [pk_us, if_pos (Nat.lt_succ_self c)]
  · rw [pk_un e]
    by_cases d : c < i
    · rw [if_pos d, if_pos (by omega)]
    · rw [if_neg d, if_neg (by omega)]
theorem c112 {h : am_H} {cc : Nat → Nat} {aa : Nat → Nat → Int32} (hw : MW h cc aa) (iv : IV cc aa) (n : Int32) : am_ev 112 [.ref 27, .int n] h (mQ h (S_later cc aa n)) := by
  have fr := mFr.rf h
  have n0 := iv.n0
  have n2 := iv.n2
  have n3 := iv.n3
  have n7 := iv.n7
  have n8 := iv.n8
  have n16 := iv.n16
  have n20 := iv.n20
  have n28 := iv.n28
  have n31 := iv.n31
  have n38 := iv.n38
  have n45 := iv.n45
  show am_wp _ (_, [_, _, _], _) _ _
  refine w_iload_n s112_0 rfl ?_
  refine w_iconst (v := 1) s112_1 rfl ?_
  refine w_sipush (v := 400) s112_2 rfl ?_
  refine w_aload_n s112_5 rfl ?_
  refine w_getf s112_6 (hw 0 _ rfl) rfl ?_
  refine w_isub s112_9 rfl ?_
  refine w_callS3r s112_10 mc112_103 rfl rfl (c103 _ _ _ _) ?_
  refine w_ifneB s112_13 rfl  (fun c13 => ?_) (fun c13 => ?_)
  · skip
    obtain ⟨k, hk1, hk2, rfl⟩ := x_later n2 c13
    refine w_aload_n s112_18 rfl ?_
    refine w_dup_r s112_19 ?_
    refine w_getf s112_20 (hw 0 _ rfl) rfl ?_
    refine w_iload_n s112_23 rfl ?_
    refine w_iaddN (x := cc 2) (y := k) s112_24 ?_
    refine m_pf2 (v := (cc 2 + k)) s112_25 hw fr (fun h hw fr => ?_)
    refine w_iconst (v := 0) s112_28 rfl ?_
    refine w_istore_n s112_29 rfl ?_
    show am_wp _ (_, [_, _, _], _) _ _
    refine am_lp (n := cc 28) (P := fun i => ∀ h, MW h (uc cc 2 (cc 2 + k)) (ua aa 30 (fun c => if c < i then 0 else aa 30 c)) → mFr _ h → am_wp 112 (30, [_, _, some (.int (nI i))], []) h _) ?_ 0 (Nat.zero_le _) h (hw.cg rfl (by rw [x_z0, ua_id])) fr
    clear hw fr; try clear h
    intro i hi ih h hw fr
    show am_wp _ (_, [_, _, _], _) _ _
    refine w_iload_n s112_30 rfl ?_
    refine w_aload_n s112_31 rfl ?_
    refine w_getf s112_32 (hw 0 _ rfl) rfl ?_
    refine w_icmpgeN (x := i) (y := cc 28) s112_35 rfl (by omega) (by omega)  (fun c35 => ?_) (fun c35 => ?_)
    · skip
      have e : i = cc 28 := by omega
      subst e
      refine w_aload_n s112_51 rfl ?_
      refine w_getf s112_52 (hw 0 _ rfl) rfl ?_
      refine w_iret s112_55 rk112 ?_
      have hk3 := nI_clamp (show k < 2 ^ 31 by omega)
      exact mq_end (by simp [S_later, *] <;> first | rfl | exact ⟨rfl, rfl⟩ | exact ⟨rfl, rfl, rfl⟩) hw fr
    · skip
      refine w_aload_n s112_38 rfl ?_
      refine w_getf s112_39 (hw 0 _ rfl) rfl ?_
      refine w_iload_n s112_42 rfl ?_
      refine w_iconst (v := 0) s112_43 rfl ?_
      refine m_st30 (y := i) s112_44 hw fr (by omega) (fun h hw fr => ?_)
      refine w_iinc s112_45 rfl (nI_inc (i)) rfl ?_
      show am_wp _ (_, [_, _, _], _) _ _
      refine w_goto s112_48 rfl ?_
      exact ih (by omega) h (hw.cg rfl (by rw [ua_s, x_zs, ua_ua])) fr
  · skip
    refine w_iconst (v := (-1)) s112_16 rfl ?_
    refine w_iret s112_17 rk112 ?_
    exact mq_end (by simp [S_later, *] <;> first | rfl | exact ⟨rfl, rfl⟩ | exact ⟨rfl, rfl, rfl⟩) hw fr
theorem c114 {h : am_H} {cc : Nat → Nat} {aa : Nat → Nat → Int32} (hw : MW h cc aa) (iv : IV cc aa) (s a b c : Int32) : am_ev 114 [.ref 27, .int s, .int a, .int b, .int c] h (mQ h (S_move cc aa s a b c)) := by
  have fr := mFr.rf h
  have n0 := iv.n0
  have n2 := iv.n2
  have n3 := iv.n3
  have n7 := iv.n7
  have n8 := iv.n8
  have n16 := iv.n16
  have n20 := iv.n20
  have n28 := iv.n28
  have n31 := iv.n31
  have n38 := iv.n38
  have n45 := iv.n45
  show am_wp _ (_, [_, _, _, _, _], _) _ _
  refine w_aload_n s114_0 rfl ?_
  refine w_iload_n s114_1 rfl ?_
  refine w_callV1r s114_2 (hw 0 _ rfl) ow107 mc114_107 rfl rfl (c107 hw iv _) ?_
  refine w_ifeqB s114_5 rfl  (fun c5 => ?_) (fun c5 => ?_)
  · skip
    refine w_iconst (v := (-1)) s114_35 rfl ?_
    refine w_iret s114_36 rk114 ?_
    exact mq_end (by simp [S_move, *] <;> first | rfl | exact ⟨rfl, rfl⟩ | exact ⟨rfl, rfl, rfl⟩) hw fr
  · skip
    refine w_iload_n s114_8 rfl ?_
    refine w_callS1r s114_9 mc114_113 rfl rfl (c113 _ _) ?_
    refine w_ifeqB s114_12 rfl  (fun c12 => ?_) (fun c12 => ?_)
    · skip
      refine w_iconst (v := (-1)) s114_35 rfl ?_
      refine w_iret s114_36 rk114 ?_
      exact mq_end (by simp [S_move, *] <;> first | rfl | exact ⟨rfl, rfl⟩ | exact ⟨rfl, rfl, rfl⟩) hw fr
    · skip
      refine w_iload_n s114_15 rfl ?_
      refine w_callS1r s114_16 mc114_113 rfl rfl (c113 _ _) ?_
      refine w_ifeqB s114_19 rfl  (fun c19 => ?_) (fun c19 => ?_)
      · skip
        refine w_iconst (v := (-1)) s114_35 rfl ?_
        refine w_iret s114_36 rk114 ?_
        exact mq_end (by simp [S_move, *] <;> first | rfl | exact ⟨rfl, rfl⟩ | exact ⟨rfl, rfl, rfl⟩) hw fr
      · skip
        refine w_iload s114_22 rfl ?_
        refine w_callS1r s114_24 mc114_113 rfl rfl (c113 _ _) ?_
        refine w_ifeqB s114_27 rfl  (fun c27 => ?_) (fun c27 => ?_)
        · skip
          refine w_iconst (v := (-1)) s114_35 rfl ?_
          refine w_iret s114_36 rk114 ?_
          exact mq_end (by simp [S_move, *] <;> first | rfl | exact ⟨rfl, rfl⟩ | exact ⟨rfl, rfl, rfl⟩) hw fr
        · skip
          refine w_iload_n s114_30 rfl ?_
          refine w_iload_n s114_31 rfl ?_
          refine w_icmpne s114_32 rfl  (fun c32 => ?_) (fun c32 => ?_)
          · skip
            refine w_aload_n s114_37 rfl ?_
            refine w_getf s114_38 (hw 0 _ rfl) rfl ?_
            refine w_bipush (v := 40) s114_41 rfl ?_
            refine w_icmpneN (x := cc 8) (y := 40) s114_43 rfl (by omega) (by omega)  (fun c43 => ?_) (fun c43 => ?_)
            · skip
              refine w_iload s114_49 rfl ?_
              refine w_aload_n s114_51 rfl ?_
              refine w_getf s114_52 (hw 0 _ rfl) rfl ?_
              refine w_icmpge s114_55 rfl  (fun c55 => ?_) (fun c55 => ?_)
              · skip
                refine w_aload_n s114_61 rfl ?_
                refine w_getf s114_62 (hw 0 _ rfl) rfl ?_
                refine w_aload_n s114_65 rfl ?_
                refine w_getf s114_66 (hw 0 _ rfl) rfl ?_
                refine w_iload_n s114_69 rfl ?_
                refine m_st9 (y := cc 8) s114_70 hw fr (by omega) (fun h hw fr => ?_)
                refine w_aload_n s114_71 rfl ?_
                refine w_getf s114_72 (hw 0 _ rfl) rfl ?_
                refine w_aload_n s114_75 rfl ?_
                refine w_getf s114_76 (hw 0 _ rfl) rfl ?_
                refine w_iload_n s114_79 rfl ?_
                refine m_st10 (y := cc 8) s114_80 hw fr (by omega) (fun h hw fr => ?_)
                refine w_aload_n s114_81 rfl ?_
                refine w_getf s114_82 (hw 0 _ rfl) rfl ?_
                refine w_aload_n s114_85 rfl ?_
                refine w_getf s114_86 (hw 0 _ rfl) rfl ?_
                refine w_iload_n s114_89 rfl ?_
                refine m_st11 (y := cc 8) s114_90 hw fr (by omega) (fun h hw fr => ?_)
                refine w_aload_n s114_91 rfl ?_
                refine w_getf s114_92 (hw 0 _ rfl) rfl ?_
                refine w_aload_n s114_95 rfl ?_
                refine w_getf s114_96 (hw 0 _ rfl) rfl ?_
                refine w_iload s114_99 rfl ?_
                refine m_st12 (y := cc 8) s114_101 hw fr (by omega) (fun h hw fr => ?_)
                refine w_aload_n s114_102 rfl ?_
                refine w_dup_r s114_103 ?_
                refine w_getf s114_104 (hw 0 _ rfl) rfl ?_
                refine w_iconst (v := 1) s114_107 rfl ?_
                refine w_iaddN (x := cc 8) (y := 1) s114_108 ?_
                refine m_pf8 (v := (cc 8 + 1)) s114_109 hw fr (fun h hw fr => ?_)
                refine w_aload_n s114_112 rfl ?_
                refine w_getf s114_113 (hw 0 _ rfl) rfl ?_
                refine w_iret s114_116 rk114 ?_
                exact mq_end (by simp [S_move, *] <;> first | rfl | exact ⟨rfl, rfl⟩ | exact ⟨rfl, rfl, rfl⟩) hw fr
              · skip
                refine w_bipush (v := (-4)) s114_58 rfl ?_
                refine w_iret s114_60 rk114 ?_
                exact mq_end (by simp [S_move, *] <;> first | rfl | exact ⟨rfl, rfl⟩ | exact ⟨rfl, rfl, rfl⟩) hw fr
            · skip
              refine w_bipush (v := (-2)) s114_46 rfl ?_
              refine w_iret s114_48 rk114 ?_
              exact mq_end (by simp [S_move, *] <;> first | rfl | exact ⟨rfl, rfl⟩ | exact ⟨rfl, rfl, rfl⟩) hw fr
          · skip
            refine w_iconst (v := (-1)) s114_35 rfl ?_
            refine w_iret s114_36 rk114 ?_
            exact mq_end (by simp [S_move, *] <;> first | rfl | exact ⟨rfl, rfl⟩ | exact ⟨rfl, rfl, rfl⟩) hw fr
theorem c115 {h : am_H} {cc : Nat → Nat} {aa : Nat → Nat → Int32} (hw : MW h cc aa) (iv : IV cc aa) (s d k : Int32) (hs : x_ix (cc 3) s = true) : am_rd 115 [.ref 27, .int s, .int d, .int k] h (.int (am_bi (x_mkt aa s d k (cc 8)))) := by
  have n0 := iv.n0
  have n2 := iv.n2
  have n3 := iv.n3
  have n7 := iv.n7
  have n8 := iv.n8
  have n16 := iv.n16
  have n20 := iv.n20
  have n28 := iv.n28
  have n31 := iv.n31
  have n38 := iv.n38
  have n45 := iv.n45
  show am_wp _ (_, [_, _, _, _, _, _], _) _ _
  refine w_aload_n s115_0 rfl ?_
  refine w_getf s115_1 (hw 0 _ rfl) rfl ?_
  refine w_iload_n s115_4 rfl ?_
  refine w_ialdI s115_5 (hw 4 _ rfl) (am_outm hs n3 (by decide)) ?_
  refine w_iload_n s115_6 rfl ?_
  refine w_bipush (v := 7) s115_7 rfl ?_
  refine w_irem s115_9 (by decide) (show _ = x_rem d 7 from rfl) ?_
  refine w_callS2r s115_10 mc115_105 rfl rfl (c105 _ _ _) ?_
  refine w_istore s115_13 rfl ?_
  show am_wp _ (_, [_, _, _, _, _, _], _) _ _
  refine w_iconst (v := 0) s115_15 rfl ?_
  refine w_istore s115_16 rfl ?_
  show am_wp _ (_, [_, _, _, _, _, _], _) _ _
  refine am_lp (n := cc 8) (P := fun i => am_wp 115 (18, [_, _, _, _, some (.int (am_bi (x_mkt aa s d k i))), some (.int (nI i))], []) h _) ?_ 0 (Nat.zero_le _)
  intro i hi ihi
  show am_wp _ (_, [_, _, _, _, _, _], _) _ _
  refine w_iload s115_18 rfl ?_
  refine w_aload_n s115_20 rfl ?_
  refine w_getf s115_21 (hw 0 _ rfl) rfl ?_
  refine w_icmpgeN (x := i) (y := cc 8) s115_24 rfl (by omega) (by omega)  (fun c24 => ?_) (fun c24 => ?_)
  · skip
    have e : i = cc 8 := by omega
    subst e
    refine w_iload s115_89 rfl ?_
    refine w_zret s115_91 rk115 ?_
    exact ⟨rfl, rfl⟩
  · skip
    refine w_aload_n s115_27 rfl ?_
    refine w_getf s115_28 (hw 0 _ rfl) rfl ?_
    refine w_iload s115_31 rfl ?_
    refine w_ialdN (y := i) s115_33 (hw 5 _ rfl) (by omega) (by decide) ?_
    refine w_iload_n s115_34 rfl ?_
    refine w_icmpne s115_35 rfl  (fun c35 => ?_) (fun c35 => ?_)
    · skip
      refine w_iinc s115_83 rfl (nI_inc (i)) rfl ?_
      show am_wp _ (_, [_, _, _, _, _, _], _) _ _
      refine w_goto s115_86 rfl ?_
      refine am_wp_l (am_cons rfl (am_cons rfl (am_cons rfl (am_cons rfl (am_cons (am_si ?_) (am_cons rfl rfl)))))) (ihi (by omega))
      all_goals first | (clear ihi; simp [x_mkt_s, x_mkf, am_bi, *]; done) | (clear ihi; simp_all [x_mkt_s, x_mkf, am_bi]; done)
    · skip
      refine w_aload_n s115_38 rfl ?_
      refine w_getf s115_39 (hw 0 _ rfl) rfl ?_
      refine w_iload s115_42 rfl ?_
      refine w_ialdN (y := i) s115_44 (hw 8 _ rfl) (by omega) (by decide) ?_
      refine w_iload_n s115_45 rfl ?_
      refine w_icmpgt s115_46 rfl  (fun c46 => ?_) (fun c46 => ?_)
      · skip
        refine w_iinc s115_83 rfl (nI_inc (i)) rfl ?_
        show am_wp _ (_, [_, _, _, _, _, _], _) _ _
        refine w_goto s115_86 rfl ?_
        refine am_wp_l (am_cons rfl (am_cons rfl (am_cons rfl (am_cons rfl (am_cons (am_si ?_) (am_cons rfl rfl)))))) (ihi (by omega))
        all_goals first | (clear ihi; simp [x_mkt_s, x_mkf, am_bi, *]; done) | (clear ihi; simp_all [x_mkt_s, x_mkf, am_bi]; done)
      · skip
        refine w_iload_n s115_49 rfl ?_
        refine w_aload_n s115_50 rfl ?_
        refine w_getf s115_51 (hw 0 _ rfl) rfl ?_
        refine w_iload s115_54 rfl ?_
        refine w_ialdN (y := i) s115_56 (hw 7 _ rfl) (by omega) (by decide) ?_
        refine w_icmpeq s115_57 rfl  (fun c57 => ?_) (fun c57 => ?_)
        · skip
          refine w_iconst (v := 1) s115_76 rfl ?_
          refine w_goto s115_77 rfl ?_
          refine w_istore s115_81 rfl ?_
          show am_wp _ (_, [_, _, _, _, _, _], _) _ _
          refine w_iinc s115_83 rfl (nI_inc (i)) rfl ?_
          show am_wp _ (_, [_, _, _, _, _, _], _) _ _
          refine w_goto s115_86 rfl ?_
          refine am_wp_l (am_cons rfl (am_cons rfl (am_cons rfl (am_cons rfl (am_cons (am_si ?_) (am_cons rfl rfl)))))) (ihi (by omega))
          all_goals first | (clear ihi; simp [x_mkt_s, x_mkf, am_bi, *]; done) | (clear ihi; simp_all [x_mkt_s, x_mkf, am_bi]; done)
        · skip
          refine w_iload s115_60 rfl ?_
          refine w_ifeqB s115_62 rfl  (fun c62 => ?_) (fun c62 => ?_)
          · skip
            refine w_iconst (v := 0) s115_80 rfl ?_
            refine w_istore s115_81 rfl ?_
            show am_wp _ (_, [_, _, _, _, _, _], _) _ _
            refine w_iinc s115_83 rfl (nI_inc (i)) rfl ?_
            show am_wp _ (_, [_, _, _, _, _, _], _) _ _
            refine w_goto s115_86 rfl ?_
            refine am_wp_l (am_cons rfl (am_cons rfl (am_cons rfl (am_cons rfl (am_cons (am_si ?_) (am_cons rfl rfl)))))) (ihi (by omega))
            all_goals first | (clear ihi; simp [x_mkt_s, x_mkf, am_bi, *]; done) | (clear ihi; simp_all [x_mkt_s, x_mkf, am_bi]; done)
          · skip
            refine w_iload_n s115_65 rfl ?_
            refine w_aload_n s115_66 rfl ?_
            refine w_getf s115_67 (hw 0 _ rfl) rfl ?_
            refine w_iload s115_70 rfl ?_
            refine w_ialdN (y := i) s115_72 (hw 6 _ rfl) (by omega) (by decide) ?_
            refine w_icmpeq s115_73 rfl  (fun c73 => ?_) (fun c73 => ?_)
            · skip
              refine w_iconst (v := 0) s115_80 rfl ?_
              refine w_istore s115_81 rfl ?_
              show am_wp _ (_, [_, _, _, _, _, _], _) _ _
              refine w_iinc s115_83 rfl (nI_inc (i)) rfl ?_
              show am_wp _ (_, [_, _, _, _, _, _], _) _ _
              refine w_goto s115_86 rfl ?_
              refine am_wp_l (am_cons rfl (am_cons rfl (am_cons rfl (am_cons rfl (am_cons (am_si ?_) (am_cons rfl rfl)))))) (ihi (by omega))
              all_goals first | (clear ihi; simp [x_mkt_s, x_mkf, am_bi, *]; done) | (clear ihi; simp_all [x_mkt_s, x_mkf, am_bi]; done)
            · skip
              refine w_iconst (v := 1) s115_76 rfl ?_
              refine w_goto s115_77 rfl ?_
              refine w_istore s115_81 rfl ?_
              show am_wp _ (_, [_, _, _, _, _, _], _) _ _
              refine w_iinc s115_83 rfl (nI_inc (i)) rfl ?_
              show am_wp _ (_, [_, _, _, _, _, _], _) _ _
              refine w_goto s115_86 rfl ?_
              refine am_wp_l (am_cons rfl (am_cons rfl (am_cons rfl (am_cons rfl (am_cons (am_si ?_) (am_cons rfl rfl)))))) (ihi (by omega))
              all_goals first | (clear ihi; simp [x_mkt_s, x_mkf, am_bi, *]; done) | (clear ihi; simp_all [x_mkt_s, x_mkf, am_bi]; done)
theorem c116 {h : am_H} {cc : Nat → Nat} {aa : Nat → Nat → Int32} (hw : MW h cc aa) (iv : IV cc aa) (s d k : Int32) : am_rd 116 [.ref 27, .int s, .int d, .int k] h (.int (x_market cc aa s d k)) := by
  have n0 := iv.n0
  have n2 := iv.n2
  have n3 := iv.n3
  have n7 := iv.n7
  have n8 := iv.n8
  have n16 := iv.n16
  have n20 := iv.n20
  have n28 := iv.n28
  have n31 := iv.n31
  have n38 := iv.n38
  have n45 := iv.n45
  show am_wp _ (_, [_, _, _, _], _) _ _
  refine w_aload_n s116_0 rfl ?_
  refine w_iload_n s116_1 rfl ?_
  refine w_callV1r s116_2 (hw 0 _ rfl) ow107 mc116_107 rfl rfl (c107 hw iv _) ?_
  refine w_ifeqB s116_5 rfl  (fun c5 => ?_) (fun c5 => ?_)
  · skip
    refine w_iconst (v := (-1)) s116_40 rfl ?_
    refine w_iret s116_41 rk116 ?_
    exact ⟨by simp [x_market, am_bi, *], rfl⟩
  · skip
    refine w_iload_n s116_8 rfl ?_
    refine w_callS1r s116_9 mc116_113 rfl rfl (c113 _ _) ?_
    refine w_ifeqB s116_12 rfl  (fun c12 => ?_) (fun c12 => ?_)
    · skip
      refine w_iconst (v := (-1)) s116_40 rfl ?_
      refine w_iret s116_41 rk116 ?_
      exact ⟨by simp [x_market, am_bi, *], rfl⟩
    · skip
      refine w_iload_n s116_15 rfl ?_
      refine w_callS1r s116_16 mc116_113 rfl rfl (c113 _ _) ?_
      refine w_ifeqB s116_19 rfl  (fun c19 => ?_) (fun c19 => ?_)
      · skip
        refine w_iconst (v := (-1)) s116_40 rfl ?_
        refine w_iret s116_41 rk116 ?_
        exact ⟨by simp [x_market, am_bi, *], rfl⟩
      · skip
        refine w_aload_n s116_22 rfl ?_
        refine w_iload_n s116_23 rfl ?_
        refine w_iload_n s116_24 rfl ?_
        refine w_iload_n s116_25 rfl ?_
        refine w_callV3r s116_26 (hw 0 _ rfl) ow115 mc116_115 rfl rfl (c115 hw iv _ _ _ (by assumption)) ?_
        refine w_ifeqB s116_29 rfl  (fun c29 => ?_) (fun c29 => ?_)
        · skip
          refine w_iconst (v := 0) s116_36 rfl ?_
          refine w_goto s116_37 rfl ?_
          refine w_iret s116_41 rk116 ?_
          exact ⟨by simp [x_market, am_bi, *], rfl⟩
        · skip
          refine w_iconst (v := 1) s116_32 rfl ?_
          refine w_goto s116_33 rfl ?_
          refine w_iret s116_41 rk116 ?_
          exact ⟨by simp [x_market, am_bi, *], rfl⟩
theorem c118a {h : am_H} {cc : Nat → Nat} {aa : Nat → Nat → Int32} (hw : MW h cc aa) (s : Int32) (hs : x_in s 0 3 = false) : am_rd 118 [.ref 27, .int s] h (.int (-1)) := by
  show am_wp _ (_, [_, _], _) _ _
  refine w_iload_n s118_0 rfl ?_
  refine w_callS1r s118_1 mc118_117 rfl rfl (c117 _ _) ?_
  refine w_ifneB s118_4 rfl  (fun c => False.elim (by rw [hs] at c; cases c)) (fun c4 => ?_)
  refine w_iconst (v := (-1)) s118_7 rfl ?_
  refine w_goto s118_8 rfl ?_
  refine w_iret s118_29 rk118 ?_
  exact ⟨rfl, rfl⟩
theorem c118b {h : am_H} {cc : Nat → Nat} {aa : Nat → Nat → Int32} (hw : MW h cc aa) (j : Nat) (hj : j < 4) (hz : aa 13 j < 0) : am_ev 118 [.ref 27, .int (nI j)] h (mQ h (S_meets cc aa 1)) := by
  have fr := mFr.rf h
  show am_wp _ (_, [_, _], _) _ _
  refine w_iload_n s118_0 rfl ?_
  refine w_callS1r s118_1 mc118_117 rfl rfl (c117 _ _) ?_
  refine w_ifneB s118_4 rfl  (fun c4 => ?_) (fun c => False.elim (by rw [x_in3 hj] at c; cases c))
  refine w_aload_n s118_11 rfl ?_
  refine w_getf s118_12 (hw 0 _ rfl) rfl ?_
  refine w_iload_n s118_15 rfl ?_
  refine w_ialdN (y := j) s118_16 (hw 9 _ rfl) (by omega) (by decide) ?_
  refine w_ifge s118_17 rfl  (fun c => False.elim (Int32.not_lt.mpr c hz)) (fun c17 => ?_)
  refine w_aload_n s118_20 rfl ?_
  refine w_iconst (v := 1) s118_21 rfl ?_
  refine w_callV1 s118_22 (hw 0 _ rfl) ow104 mc118_104 rfl rfl (c104 hw 1 (by decide)) ?_
  rintro v h ⟨rfl, hw, fr2⟩
  replace fr := fr.tr fr2
  clear fr2
  show am_wp _ (_, _, Value.int (-3) :: _) _ _
  refine w_goto s118_25 rfl ?_
  refine w_iret s118_29 rk118 ?_
  exact mq_end rfl hw fr
theorem c118c {h : am_H} {cc : Nat → Nat} {aa : Nat → Nat → Int32} (hw : MW h cc aa) (j : Nat) (hj : j < 4) (hz : ¬ aa 13 j < 0) : am_rd 118 [.ref 27, .int (nI j)] h (.int 0) := by
  show am_wp _ (_, [_, _], _) _ _
  refine w_iload_n s118_0 rfl ?_
  refine w_callS1r s118_1 mc118_117 rfl rfl (c117 _ _) ?_
  refine w_ifneB s118_4 rfl  (fun c4 => ?_) (fun c => False.elim (by rw [x_in3 hj] at c; cases c))
  refine w_aload_n s118_11 rfl ?_
  refine w_getf s118_12 (hw 0 _ rfl) rfl ?_
  refine w_iload_n s118_15 rfl ?_
  refine w_ialdN (y := j) s118_16 (hw 9 _ rfl) (by omega) (by decide) ?_
  refine w_ifge s118_17 rfl  (fun c17 => ?_) (fun c => False.elim (c (Int32.not_lt.mp hz)))
  refine w_iconst (v := 0) s118_28 rfl ?_
  refine w_iret s118_29 rk118 ?_
  exact ⟨rfl, rfl⟩
