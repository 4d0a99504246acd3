/-! the reference: who heard, what is joined, counts, the digest -/
theorem x_in_n2 {s : Int32} {a b : Nat} (h : x_in s (nI a) (nI b) = true) (hb : b < 2 ^ 31) (ha : a < 2 ^ 31) : ∃ j, a ≤ j ∧ j ≤ b ∧ s = nI j := by
  unfold x_in at h
  rw [← Bool.decide_and] at h
  have h1 := of_decide_eq_true h
  rw [Int32.le_iff_toInt_le, Int32.le_iff_toInt_le, nI_toInt hb, nI_toInt ha] at h1
  refine ⟨s.toInt.toNat, by omega, by omega, ?_⟩
  apply Int32.toInt_inj.mp
  rw [nI_toInt (by omega)]
  omega
def S_present (cc : Nat → Nat) (aa : Nat → Nat → Int32) (p q f t : Int32) : x_A := if x_in p 0 9 = true ∧ x_ix (cc 3) q = true ∧ x_in f 0 1439 = true ∧ x_in t f 1439 = true then (if cc 38 = 60 then (-2, cc, aa) else (nI (cc 38 + 1), uc cc 38 (cc 38 + 1), ua (ua (ua (ua (ua aa 39 (upd (aa 39) (cc 38) p)) 40 (upd (aa 40) (cc 38) q)) 41 (upd (aa 41) (cc 38) (nI (cc 2)))) 42 (upd (aa 42) (cc 38) f)) 43 (upd (aa 43) (cc 38) t))) else (-1, cc, aa)
def x_hf (cc : Nat → Nat) (aa : Nat → Nat → Int32) (p : Int32) (i k : Nat) : Bool := decide (aa 39 k = p) && decide (aa 41 k = aa 35 i) && x_in (aa 36 i) (aa 42 k) (aa 43 k) && !decide (nI (cc 7) < x_walks aa (aa 40 k) (aa 34 i))
def x_hears (cc : Nat → Nat) (aa : Nat → Nat → Int32) (p : Int32) (i : Nat) : Bool := x_any (x_hf cc aa p i) (cc 38)
def x_hd (cc : Nat → Nat) (aa : Nat → Nat → Int32) (p n : Int32) (i : Nat) : Bool := decide (aa 32 i = n) && decide (aa 37 i = 1) && x_hears cc aa p i
def x_heard (cc : Nat → Nat) (aa : Nat → Nat → Int32) (p n : Int32) : Int32 := x_sum (fun i => am_bi (x_hd cc aa p n i)) (cc 31)
def x_heardA (cc : Nat → Nat) (aa : Nat → Nat → Int32) (p n : Int32) : Int32 := if x_in p 0 9 = true ∧ x_ix (cc 20) n = true then x_heard cc aa p n else -1
def x_hrf (cc : Nat → Nat) (aa : Nat → Nat → Int32) (n k : Int32) (p : Nat) (s : Int32) : Int32 := s ||| (if x_heard cc aa (nI p) n < k then (0 : Int32) else (1 : Int32) <<< (nI p &&& 31))
def x_hr (cc : Nat → Nat) (aa : Nat → Nat → Int32) (n k : Int32) : Nat → Int32 := x_it (x_hrf cc aa n k) 0
theorem x_hr_s (cc : Nat → Nat) (aa : Nat → Nat → Int32) (n k : Int32) (p : Nat) : x_hr cc aa n k (p + 1) = x_hrf cc aa n k p (x_hr cc aa n k p) := rfl
def x_hearers (cc : Nat → Nat) (aa : Nat → Nat → Int32) (n k : Int32) : Int32 := if x_ix (cc 20) n = true ∧ x_in k 1 9 = true then x_hr cc aa n k 10 else -1
def x_roundAt (cc : Nat → Nat) (aa : Nat → Nat → Int32) (i : Int32) : Int32 := if x_ix (cc 45) i = true then aa 46 (tn i) else -9
def S_joined (cc : Nat → Nat) (aa : Nat → Nat → Int32) (n k i : Int32) : x_A := if x_ix (cc 20) n = true ∧ x_in k 1 16 = true then (if aa 21 (tn n) = 4 then (x_nth (fun f => x_joins aa (tn n) f k) (cc 20) i, cc, aa) else S_meets cc aa 3) else (-1, cc, aa)
def x_counts (cc : Nat → Nat) (w : Int32) : Int32 := if w = 0 then nI (cc 3) else if w = 1 then nI (cc 28) else if w = 2 then nI (cc 20) else if w = 3 then nI (cc 31) else if w = 4 then nI (cc 2) else if w = 5 then nI (cc 8) else nI (cc 16)
def x_count (cc : Nat → Nat) (w : Int32) : Int32 := if x_in w 0 6 = true then x_counts cc w else -1
def x_finds (aa : Nat → Nat → Int32) (f : Int32) : Int32 := if x_in f 1 5 = true then aa 1 (tn f) else -1
def x_d0 (cc : Nat → Nat) : Nat → Int64 := x_it (fun w h => 31 * h + (x_counts cc (nI w)).toInt64) 17
def x_d1w (cc : Nat → Nat) (aa : Nat → Nat → Int32) (n : Nat) (h : Int64) : Nat → Int64 := x_it (fun w h => 31 * h + (x_tells cc aa n (nI w)).toInt64) h
def x_d1 (cc : Nat → Nat) (aa : Nat → Nat → Int32) : Nat → Int64 := x_it (fun n h => x_d1w cc aa n h 7) (x_d0 cc 7)
def x_d2w (aa : Nat → Nat → Int32) (i : Nat) (h : Int64) : Nat → Int64 := x_it (fun w h => 31 * h + (x_tc aa i (nI w)).toInt64) h
def x_d2 (cc : Nat → Nat) (aa : Nat → Nat → Int32) : Nat → Int64 := x_it (fun i h => x_d2w aa i h 6) (x_d1 cc aa (cc 20))
def x_d3 (cc : Nat → Nat) (aa : Nat → Nat → Int32) : Nat → Int64 := x_it (fun c h => 31 * (31 * h + (aa 29 c).toInt64) + (aa 30 c).toInt64) (x_d2 cc aa (cc 31))
def x_d4w (aa : Nat → Nat → Int32) (s : Nat) (h : Int64) : Nat → Int64 := x_it (fun k h => 31 * h + (aa 14 (80 * s + k)).toInt64) (31 * h + (if aa 13 s < 0 then (-1 : Int32) else aa 13 s).toInt64)
def x_d4 (cc : Nat → Nat) (aa : Nat → Nat → Int32) : Nat → Int64 := x_it (fun s h => x_d4w aa s h (tn (aa 13 s))) (x_d3 cc aa (cc 28))
theorem x_it_0 {α : Type} (g : Nat → α → α) (a : α) : x_it g a 0 = a := rfl
theorem x_d0_0 (cc : Nat → Nat) : x_d0 cc 0 = 17 := by unfold x_d0; exact x_it_0 _ _
theorem x_d0_s (cc : Nat → Nat) (u : Nat) : x_d0 cc (u + 1) = 31 * x_d0 cc u + (x_counts cc (nI u)).toInt64 := by unfold x_d0; exact x_it_s _ _ _
theorem x_d1_0 (cc : Nat → Nat) (aa : Nat → Nat → Int32) : x_d1 cc aa 0 = x_d0 cc 7 := by unfold x_d1; exact x_it_0 _ _
theorem x_d1_s (cc : Nat → Nat) (aa : Nat → Nat → Int32) (n : Nat) : x_d1 cc aa (n + 1) = x_d1w cc aa n (x_d1 cc aa n) 7 := by unfold x_d1; exact x_it_s _ _ _
theorem x_d1w_0 (cc : Nat → Nat) (aa : Nat → Nat → Int32) (n : Nat) (h : Int64) : x_d1w cc aa n h 0 = h := by unfold x_d1w; exact x_it_0 _ _
theorem x_d1w_s (cc : Nat → Nat) (aa : Nat → Nat → Int32) (n : Nat) (h : Int64) (u : Nat) : x_d1w cc aa n h (u + 1) = 31 * x_d1w cc aa n h u + (x_tells cc aa n (nI u)).toInt64 := by unfold x_d1w; exact x_it_s _ _ _
theorem x_d2_0 (cc : Nat → Nat) (aa : Nat → Nat → Int32) : x_d2 cc aa 0 = x_d1 cc aa (cc 20) := by unfold x_d2; exact x_it_0 _ _
theorem x_d2_s (cc : Nat → Nat) (aa : Nat → Nat → Int32) (n : Nat) : x_d2 cc aa (n + 1) = x_d2w aa n (x_d2 cc aa n) 6 := by unfold x_d2; exact x_it_s _ _ _
theorem x_d2w_0 (aa : Nat → Nat → Int32) (n : Nat) (h : Int64) : x_d2w aa n h 0 = h := by unfold x_d2w; exact x_it_0 _ _
theorem x_d2w_s (aa : Nat → Nat → Int32) (n : Nat) (h : Int64) (u : Nat) : x_d2w aa n h (u + 1) = 31 * x_d2w aa n h u + (x_tc aa n (nI u)).toInt64 := by unfold x_d2w; exact x_it_s _ _ _
theorem x_d3_0 (cc : Nat → Nat) (aa : Nat → Nat → Int32) : x_d3 cc aa 0 = x_d2 cc aa (cc 31) := by unfold x_d3; exact x_it_0 _ _
theorem x_d3_s (cc : Nat → Nat) (aa : Nat → Nat → Int32) (c : Nat) : x_d3 cc aa (c + 1) = 31 * (31 * x_d3 cc aa c + (aa 29 c).toInt64) + (aa 30 c).toInt64 := by unfold x_d3; exact x_it_s _ _ _
theorem x_d4_0 (cc : Nat → Nat) (aa : Nat → Nat → Int32) : x_d4 cc aa 0 = x_d3 cc aa (cc 28) := by unfold x_d4; exact x_it_0 _ _
theorem x_d4_s (cc : Nat → Nat) (aa : Nat → Nat → Int32) (s : Nat) : x_d4 cc aa (s + 1) = x_d4w aa s (x_d4 cc aa s) (tn (aa 13 s)) := by unfold x_d4; exact x_it_s _ _ _
theorem x_d4w_0 (aa : Nat → Nat → Int32) (s : Nat) (h : Int64) : x_d4w aa s h 0 = 31 * h + (if aa 13 s < 0 then (-1 : Int32) else aa 13 s).toInt64 := by unfold x_d4w; exact x_it_0 _ _
theorem x_d4w_s (aa : Nat → Nat → Int32) (s : Nat) (h : Int64) (k : Nat) : x_d4w aa s h (k + 1) = 31 * x_d4w aa s h k + (aa 14 (80 * s + k)).toInt64 := by unfold x_d4w; exact x_it_s _ _ _
def x_digest (cc : Nat → Nat) (aa : Nat → Nat → Int32) : Int64 := x_d4 cc aa 4
theorem c161 {h : am_H} {cc : Nat → Nat} {aa : Nat → Nat → Int32} (hw : MW h cc aa) (iv : IV cc aa) (p q f t : Int32) : am_ev 161 [.ref 27, .int p, .int q, .int f, .int t] h (mQ h (S_present cc aa p q f t)) := by
  have fr := mFr.rf h
  have n0 := iv.n0
  have n2 := iv.n2
  have n3 := iv.n3
  have n7 := iv.n7
  have n8 := iv.n8
  have n16 := iv.n16
  have n20 := iv.n20
  have n28 := iv.n28
  have n31 := iv.n31
  have n38 := iv.n38
  have n45 := iv.n45
  show am_wp _ (_, [_, _, _, _, _], _) _ _
  refine w_iload_n s161_0 rfl ?_
  refine w_callS1r s161_1 mc161_160 rfl rfl (c160 _ _) ?_
  refine w_ifeqB s161_4 rfl  (fun c4 => ?_) (fun c4 => ?_)
  · skip
    refine w_iconst (v := (-1)) s161_38 rfl ?_
    refine w_iret s161_39 rk161 ?_
    exact mq_end (by simp [S_present, *] <;> first | rfl | exact ⟨rfl, rfl⟩ | exact ⟨rfl, rfl, rfl⟩) hw fr
  · skip
    refine w_aload_n s161_7 rfl ?_
    refine w_iload_n s161_8 rfl ?_
    refine w_callV1r s161_9 (hw 0 _ rfl) ow107 mc161_107 rfl rfl (c107 hw iv _) ?_
    refine w_ifeqB s161_12 rfl  (fun c12 => ?_) (fun c12 => ?_)
    · skip
      refine w_iconst (v := (-1)) s161_38 rfl ?_
      refine w_iret s161_39 rk161 ?_
      exact mq_end (by simp [S_present, *] <;> first | rfl | exact ⟨rfl, rfl⟩ | exact ⟨rfl, rfl, rfl⟩) hw fr
    · skip
      refine w_iload_n s161_15 rfl ?_
      refine w_iconst (v := 0) s161_16 rfl ?_
      refine w_sipush (v := 1439) s161_17 rfl ?_
      refine w_callS3r s161_20 mc161_103 rfl rfl (c103 _ _ _ _) ?_
      refine w_ifeqB s161_23 rfl  (fun c23 => ?_) (fun c23 => ?_)
      · skip
        refine w_iconst (v := (-1)) s161_38 rfl ?_
        refine w_iret s161_39 rk161 ?_
        exact mq_end (by simp [S_present, *] <;> first | rfl | exact ⟨rfl, rfl⟩ | exact ⟨rfl, rfl, rfl⟩) hw fr
      · skip
        refine w_iload s161_26 rfl ?_
        refine w_iload_n s161_28 rfl ?_
        refine w_sipush (v := 1439) s161_29 rfl ?_
        refine w_callS3r s161_32 mc161_103 rfl rfl (c103 _ _ _ _) ?_
        refine w_ifneB s161_35 rfl  (fun c35 => ?_) (fun c35 => ?_)
        · skip
          refine w_aload_n s161_40 rfl ?_
          refine w_getf s161_41 (hw 0 _ rfl) rfl ?_
          refine w_bipush (v := 60) s161_44 rfl ?_
          refine w_icmpneN (x := cc 38) (y := 60) s161_46 rfl (by omega) (by omega)  (fun c46 => ?_) (fun c46 => ?_)
          · skip
            refine w_aload_n s161_52 rfl ?_
            refine w_getf s161_53 (hw 0 _ rfl) rfl ?_
            refine w_aload_n s161_56 rfl ?_
            refine w_getf s161_57 (hw 0 _ rfl) rfl ?_
            refine w_iload_n s161_60 rfl ?_
            refine m_st39 (y := cc 38) s161_61 hw fr (by omega) (fun h hw fr => ?_)
            refine w_aload_n s161_62 rfl ?_
            refine w_getf s161_63 (hw 0 _ rfl) rfl ?_
            refine w_aload_n s161_66 rfl ?_
            refine w_getf s161_67 (hw 0 _ rfl) rfl ?_
            refine w_iload_n s161_70 rfl ?_
            refine m_st40 (y := cc 38) s161_71 hw fr (by omega) (fun h hw fr => ?_)
            refine w_aload_n s161_72 rfl ?_
            refine w_getf s161_73 (hw 0 _ rfl) rfl ?_
            refine w_aload_n s161_76 rfl ?_
            refine w_getf s161_77 (hw 0 _ rfl) rfl ?_
            refine w_aload_n s161_80 rfl ?_
            refine w_getf s161_81 (hw 0 _ rfl) rfl ?_
            refine m_st41 (y := cc 38) s161_84 hw fr (by omega) (fun h hw fr => ?_)
            refine w_aload_n s161_85 rfl ?_
            refine w_getf s161_86 (hw 0 _ rfl) rfl ?_
            refine w_aload_n s161_89 rfl ?_
            refine w_getf s161_90 (hw 0 _ rfl) rfl ?_
            refine w_iload_n s161_93 rfl ?_
            refine m_st42 (y := cc 38) s161_94 hw fr (by omega) (fun h hw fr => ?_)
            refine w_aload_n s161_95 rfl ?_
            refine w_getf s161_96 (hw 0 _ rfl) rfl ?_
            refine w_aload_n s161_99 rfl ?_
            refine w_getf s161_100 (hw 0 _ rfl) rfl ?_
            refine w_iload s161_103 rfl ?_
            refine m_st43 (y := cc 38) s161_105 hw fr (by omega) (fun h hw fr => ?_)
            refine w_aload_n s161_106 rfl ?_
            refine w_dup_r s161_107 ?_
            refine w_getf s161_108 (hw 0 _ rfl) rfl ?_
            refine w_iconst (v := 1) s161_111 rfl ?_
            refine w_iaddN (x := cc 38) (y := 1) s161_112 ?_
            refine m_pf38 (v := (cc 38 + 1)) s161_113 hw fr (fun h hw fr => ?_)
            refine w_aload_n s161_116 rfl ?_
            refine w_getf s161_117 (hw 0 _ rfl) rfl ?_
            refine w_iret s161_120 rk161 ?_
            exact mq_end (by simp [S_present, *] <;> first | rfl | exact ⟨rfl, rfl⟩ | exact ⟨rfl, rfl, rfl⟩) hw fr
          · skip
            refine w_bipush (v := (-2)) s161_49 rfl ?_
            refine w_iret s161_51 rk161 ?_
            exact mq_end (by simp [S_present, *] <;> first | rfl | exact ⟨rfl, rfl⟩ | exact ⟨rfl, rfl, rfl⟩) hw fr
        · skip
          refine w_iconst (v := (-1)) s161_38 rfl ?_
          refine w_iret s161_39 rk161 ?_
          exact mq_end (by simp [S_present, *] <;> first | rfl | exact ⟨rfl, rfl⟩ | exact ⟨rfl, rfl, rfl⟩) hw fr
theorem c162 {h : am_H} {cc : Nat → Nat} {aa : Nat → Nat → Int32} (hw : MW h cc aa) (iv : IV cc aa) (p : Int32) (i : Nat) (hi : i < cc 31) : am_rd 162 [.ref 27, .int p, .int (nI i)] h (.int (am_bi (x_hears cc aa p i))) := by
  have n0 := iv.n0
  have n2 := iv.n2
  have n3 := iv.n3
  have n7 := iv.n7
  have n8 := iv.n8
  have n16 := iv.n16
  have n20 := iv.n20
  have n28 := iv.n28
  have n31 := iv.n31
  have n38 := iv.n38
  have n45 := iv.n45
  have hys := iv.ys i hi
  show am_wp _ (_, [_, _, _, _, _], _) _ _
  refine w_iconst (v := 0) s162_0 rfl ?_
  refine w_istore_n s162_1 rfl ?_
  show am_wp _ (_, [_, _, _, _, _], _) _ _
  refine w_iconst (v := 0) s162_2 rfl ?_
  refine w_istore s162_3 rfl ?_
  show am_wp _ (_, [_, _, _, _, _], _) _ _
  refine am_lp (n := cc 38) (P := fun k => am_wp 162 (5, [_, _, _, some (.int (am_bi (x_any (x_hf cc aa p i) k))), some (.int (nI k))], []) h _) ?_ 0 (Nat.zero_le _)
  intro k hk ihk
  show am_wp _ (_, [_, _, _, _, _], _) _ _
  refine w_iload s162_5 rfl ?_
  refine w_aload_n s162_7 rfl ?_
  refine w_getf s162_8 (hw 0 _ rfl) rfl ?_
  refine w_icmpgeN (x := k) (y := cc 38) s162_11 rfl (by omega) (by omega)  (fun c11 => ?_) (fun c11 => ?_)
  · skip
    have e : k = cc 38 := by omega
    subst e
    refine w_iload_n s162_107 rfl ?_
    refine w_zret s162_108 rk162 ?_
    exact ⟨rfl, rfl⟩
  · skip
    have hps := iv.ps k c11
    refine w_iload_n s162_14 rfl ?_
    refine w_ifneB s162_15 rfl  (fun c15 => ?_) (fun c15 => ?_)
    · skip
      refine w_iconst (v := 1) s162_95 rfl ?_
      refine w_goto s162_96 rfl ?_
      refine w_istore_n s162_100 rfl ?_
      show am_wp _ (_, [_, _, _, _, _], _) _ _
      refine w_iinc s162_101 rfl (nI_inc (k)) rfl ?_
      show am_wp _ (_, [_, _, _, _, _], _) _ _
      refine w_goto s162_104 rfl ?_
      refine am_wp_l (am_cons rfl (am_cons rfl (am_cons rfl (am_cons (am_si ?_) (am_cons rfl rfl))))) (ihk (by omega))
      all_goals first | (clear ihk; simp [x_any_s, x_hf, am_bi, *]; done) | (clear ihk; simp_all [x_any_s, x_hf, am_bi]; done)
    · skip
      refine w_aload_n s162_18 rfl ?_
      refine w_getf s162_19 (hw 0 _ rfl) rfl ?_
      refine w_iload s162_22 rfl ?_
      refine w_ialdN (y := k) s162_24 (hw 30 _ rfl) (by omega) (by decide) ?_
      refine w_iload_n s162_25 rfl ?_
      refine w_icmpne s162_26 rfl  (fun c26 => ?_) (fun c26 => ?_)
      · skip
        refine w_iconst (v := 0) s162_99 rfl ?_
        refine w_istore_n s162_100 rfl ?_
        show am_wp _ (_, [_, _, _, _, _], _) _ _
        refine w_iinc s162_101 rfl (nI_inc (k)) rfl ?_
        show am_wp _ (_, [_, _, _, _, _], _) _ _
        refine w_goto s162_104 rfl ?_
        refine am_wp_l (am_cons rfl (am_cons rfl (am_cons rfl (am_cons (am_si ?_) (am_cons rfl rfl))))) (ihk (by omega))
        all_goals first | (clear ihk; simp [x_any_s, x_hf, am_bi, *]; done) | (clear ihk; simp_all [x_any_s, x_hf, am_bi]; done)
      · skip
        refine w_aload_n s162_29 rfl ?_
        refine w_getf s162_30 (hw 0 _ rfl) rfl ?_
        refine w_iload s162_33 rfl ?_
        refine w_ialdN (y := k) s162_35 (hw 32 _ rfl) (by omega) (by decide) ?_
        refine w_aload_n s162_36 rfl ?_
        refine w_getf s162_37 (hw 0 _ rfl) rfl ?_
        refine w_iload_n s162_40 rfl ?_
        refine w_ialdN (y := i) s162_41 (hw 27 _ rfl) (by omega) (by decide) ?_
        refine w_icmpne s162_42 rfl  (fun c42 => ?_) (fun c42 => ?_)
        · skip
          refine w_iconst (v := 0) s162_99 rfl ?_
          refine w_istore_n s162_100 rfl ?_
          show am_wp _ (_, [_, _, _, _, _], _) _ _
          refine w_iinc s162_101 rfl (nI_inc (k)) rfl ?_
          show am_wp _ (_, [_, _, _, _, _], _) _ _
          refine w_goto s162_104 rfl ?_
          refine am_wp_l (am_cons rfl (am_cons rfl (am_cons rfl (am_cons (am_si ?_) (am_cons rfl rfl))))) (ihk (by omega))
          all_goals first | (clear ihk; simp [x_any_s, x_hf, am_bi, *]; done) | (clear ihk; simp_all [x_any_s, x_hf, am_bi]; done)
        · skip
          refine w_aload_n s162_45 rfl ?_
          refine w_getf s162_46 (hw 0 _ rfl) rfl ?_
          refine w_iload_n s162_49 rfl ?_
          refine w_ialdN (y := i) s162_50 (hw 28 _ rfl) (by omega) (by decide) ?_
          refine w_aload_n s162_51 rfl ?_
          refine w_getf s162_52 (hw 0 _ rfl) rfl ?_
          refine w_iload s162_55 rfl ?_
          refine w_ialdN (y := k) s162_57 (hw 33 _ rfl) (by omega) (by decide) ?_
          refine w_aload_n s162_58 rfl ?_
          refine w_getf s162_59 (hw 0 _ rfl) rfl ?_
          refine w_iload s162_62 rfl ?_
          refine w_ialdN (y := k) s162_64 (hw 34 _ rfl) (by omega) (by decide) ?_
          refine w_callS3r s162_65 mc162_103 rfl rfl (c103 _ _ _ _) ?_
          refine w_ifeqB s162_68 rfl  (fun c68 => ?_) (fun c68 => ?_)
          · skip
            refine w_iconst (v := 0) s162_99 rfl ?_
            refine w_istore_n s162_100 rfl ?_
            show am_wp _ (_, [_, _, _, _, _], _) _ _
            refine w_iinc s162_101 rfl (nI_inc (k)) rfl ?_
            show am_wp _ (_, [_, _, _, _, _], _) _ _
            refine w_goto s162_104 rfl ?_
            refine am_wp_l (am_cons rfl (am_cons rfl (am_cons rfl (am_cons (am_si ?_) (am_cons rfl rfl))))) (ihk (by omega))
            all_goals first | (clear ihk; simp [x_any_s, x_hf, am_bi, *]; done) | (clear ihk; simp_all [x_any_s, x_hf, am_bi]; done)
          · skip
            refine w_aload_n s162_71 rfl ?_
            refine w_aload_n s162_72 rfl ?_
            refine w_getf s162_73 (hw 0 _ rfl) rfl ?_
            refine w_iload s162_76 rfl ?_
            refine w_ialdN (y := k) s162_78 (hw 31 _ rfl) (by omega) (by decide) ?_
            refine w_aload_n s162_79 rfl ?_
            refine w_getf s162_80 (hw 0 _ rfl) rfl ?_
            refine w_iload_n s162_83 rfl ?_
            refine w_ialdN (y := i) s162_84 (hw 26 _ rfl) (by omega) (by decide) ?_
            refine w_callV2r s162_85 (hw 0 _ rfl) ow109 mc162_109 rfl rfl (c109 hw n3 _ _ (by assumption) (by assumption)) ?_
            refine w_aload_n s162_88 rfl ?_
            refine w_getf s162_89 (hw 0 _ rfl) rfl ?_
            refine w_icmpgt s162_92 rfl  (fun c92 => ?_) (fun c92 => ?_)
            · skip
              refine w_iconst (v := 0) s162_99 rfl ?_
              refine w_istore_n s162_100 rfl ?_
              show am_wp _ (_, [_, _, _, _, _], _) _ _
              refine w_iinc s162_101 rfl (nI_inc (k)) rfl ?_
              show am_wp _ (_, [_, _, _, _, _], _) _ _
              refine w_goto s162_104 rfl ?_
              refine am_wp_l (am_cons rfl (am_cons rfl (am_cons rfl (am_cons (am_si ?_) (am_cons rfl rfl))))) (ihk (by omega))
              all_goals first | (clear ihk; simp [x_any_s, x_hf, am_bi, *]; done) | (clear ihk; simp_all [x_any_s, x_hf, am_bi]; done)
            · skip
              refine w_iconst (v := 1) s162_95 rfl ?_
              refine w_goto s162_96 rfl ?_
              refine w_istore_n s162_100 rfl ?_
              show am_wp _ (_, [_, _, _, _, _], _) _ _
              refine w_iinc s162_101 rfl (nI_inc (k)) rfl ?_
              show am_wp _ (_, [_, _, _, _, _], _) _ _
              refine w_goto s162_104 rfl ?_
              refine am_wp_l (am_cons rfl (am_cons rfl (am_cons rfl (am_cons (am_si ?_) (am_cons rfl rfl))))) (ihk (by omega))
              all_goals first | (clear ihk; simp [x_any_s, x_hf, am_bi, *]; done) | (clear ihk; simp_all [x_any_s, x_hf, am_bi]; done)
theorem c163 {h : am_H} {cc : Nat → Nat} {aa : Nat → Nat → Int32} (hw : MW h cc aa) (iv : IV cc aa) (p n : Int32) : am_rd 163 [.ref 27, .int p, .int n] h (.int (x_heard cc aa p n)) := by
  have n0 := iv.n0
  have n2 := iv.n2
  have n3 := iv.n3
  have n7 := iv.n7
  have n8 := iv.n8
  have n16 := iv.n16
  have n20 := iv.n20
  have n28 := iv.n28
  have n31 := iv.n31
  have n38 := iv.n38
  have n45 := iv.n45
  show am_wp _ (_, [_, _, _, _, _], _) _ _
  refine w_iconst (v := 0) s163_0 rfl ?_
  refine w_istore_n s163_1 rfl ?_
  show am_wp _ (_, [_, _, _, _, _], _) _ _
  refine w_iconst (v := 0) s163_2 rfl ?_
  refine w_istore s163_3 rfl ?_
  show am_wp _ (_, [_, _, _, _, _], _) _ _
  refine am_lp (n := cc 31) (P := fun i => am_wp 163 (5, [_, _, _, some (.int (x_sum (fun i => am_bi (x_hd cc aa p n i)) i)), some (.int (nI i))], []) h _) ?_ 0 (Nat.zero_le _)
  intro i hi ihi
  show am_wp _ (_, [_, _, _, _, _], _) _ _
  refine w_iload s163_5 rfl ?_
  refine w_aload_n s163_7 rfl ?_
  refine w_getf s163_8 (hw 0 _ rfl) rfl ?_
  refine w_icmpgeN (x := i) (y := cc 31) s163_11 rfl (by omega) (by omega)  (fun c11 => ?_) (fun c11 => ?_)
  · skip
    have e : i = cc 31 := by omega
    subst e
    refine w_iload_n s163_60 rfl ?_
    refine w_iret s163_61 rk163 ?_
    exact ⟨rfl, rfl⟩
  · skip
    refine w_iload_n s163_14 rfl ?_
    refine w_aload_n s163_15 rfl ?_
    refine w_getf s163_16 (hw 0 _ rfl) rfl ?_
    refine w_iload s163_19 rfl ?_
    refine w_ialdN (y := i) s163_21 (hw 24 _ rfl) (by omega) (by decide) ?_
    refine w_iload_n s163_22 rfl ?_
    refine w_icmpne s163_23 rfl  (fun c23 => ?_) (fun c23 => ?_)
    · skip
      refine w_iconst (v := 0) s163_51 rfl ?_
      refine w_iadd s163_52 rfl ?_
      refine w_istore_n s163_53 rfl ?_
      show am_wp _ (_, [_, _, _, _, _], _) _ _
      refine w_iinc s163_54 rfl (nI_inc (i)) rfl ?_
      show am_wp _ (_, [_, _, _, _, _], _) _ _
      refine w_goto s163_57 rfl ?_
      refine am_wp_l (am_cons rfl (am_cons rfl (am_cons rfl (am_cons (am_si ?_) (am_cons rfl rfl))))) (ihi (by omega))
      all_goals first | (clear ihi; simp [x_sum_s, x_hd, am_bi, *]; done) | (clear ihi; simp_all [x_sum_s, x_hd, am_bi]; done)
    · skip
      refine w_aload_n s163_26 rfl ?_
      refine w_getf s163_27 (hw 0 _ rfl) rfl ?_
      refine w_iload s163_30 rfl ?_
      refine w_ialdN (y := i) s163_32 (hw 29 _ rfl) (by omega) (by decide) ?_
      refine w_iconst (v := 1) s163_33 rfl ?_
      refine w_icmpne s163_34 rfl  (fun c34 => ?_) (fun c34 => ?_)
      · skip
        refine w_iconst (v := 0) s163_51 rfl ?_
        refine w_iadd s163_52 rfl ?_
        refine w_istore_n s163_53 rfl ?_
        show am_wp _ (_, [_, _, _, _, _], _) _ _
        refine w_iinc s163_54 rfl (nI_inc (i)) rfl ?_
        show am_wp _ (_, [_, _, _, _, _], _) _ _
        refine w_goto s163_57 rfl ?_
        refine am_wp_l (am_cons rfl (am_cons rfl (am_cons rfl (am_cons (am_si ?_) (am_cons rfl rfl))))) (ihi (by omega))
        all_goals first | (clear ihi; simp [x_sum_s, x_hd, am_bi, *]; done) | (clear ihi; simp_all [x_sum_s, x_hd, am_bi]; done)
      · skip
        refine w_aload_n s163_37 rfl ?_
        refine w_iload_n s163_38 rfl ?_
        refine w_iload s163_39 rfl ?_
        refine w_callV2r s163_41 (hw 0 _ rfl) ow162 mc163_162 rfl rfl (c162 hw iv _ i (by omega)) ?_
        refine w_ifeqB s163_44 rfl  (fun c44 => ?_) (fun c44 => ?_)
        · skip
          refine w_iconst (v := 0) s163_51 rfl ?_
          refine w_iadd s163_52 rfl ?_
          refine w_istore_n s163_53 rfl ?_
          show am_wp _ (_, [_, _, _, _, _], _) _ _
          refine w_iinc s163_54 rfl (nI_inc (i)) rfl ?_
          show am_wp _ (_, [_, _, _, _, _], _) _ _
          refine w_goto s163_57 rfl ?_
          refine am_wp_l (am_cons rfl (am_cons rfl (am_cons rfl (am_cons (am_si ?_) (am_cons rfl rfl))))) (ihi (by omega))
          all_goals first | (clear ihi; simp [x_sum_s, x_hd, am_bi, *]; done) | (clear ihi; simp_all [x_sum_s, x_hd, am_bi]; done)
        · skip
          refine w_iconst (v := 1) s163_47 rfl ?_
          refine w_goto s163_48 rfl ?_
          refine w_iadd s163_52 rfl ?_
          refine w_istore_n s163_53 rfl ?_
          show am_wp _ (_, [_, _, _, _, _], _) _ _
          refine w_iinc s163_54 rfl (nI_inc (i)) rfl ?_
          show am_wp _ (_, [_, _, _, _, _], _) _ _
          refine w_goto s163_57 rfl ?_
          refine am_wp_l (am_cons rfl (am_cons rfl (am_cons rfl (am_cons (am_si ?_) (am_cons rfl rfl))))) (ihi (by omega))
          all_goals first | (clear ihi; simp [x_sum_s, x_hd, am_bi, *]; done) | (clear ihi; simp_all [x_sum_s, x_hd, am_bi]; done)
theorem c164 {h : am_H} {cc : Nat → Nat} {aa : Nat → Nat → Int32} (hw : MW h cc aa) (iv : IV cc aa) (p n : Int32) : am_rd 164 [.ref 27, .int p, .int n] h (.int (x_heardA cc aa p n)) := by
  have n0 := iv.n0
  have n2 := iv.n2
  have n3 := iv.n3
  have n7 := iv.n7
  have n8 := iv.n8
  have n16 := iv.n16
  have n20 := iv.n20
  have n28 := iv.n28
  have n31 := iv.n31
  have n38 := iv.n38
  have n45 := iv.n45
  show am_wp _ (_, [_, _, _], _) _ _
  refine w_iload_n s164_0 rfl ?_
  refine w_callS1r s164_1 mc164_160 rfl rfl (c160 _ _) ?_
  refine w_ifeqB s164_4 rfl  (fun c4 => ?_) (fun c4 => ?_)
  · skip
    refine w_iconst (v := (-1)) s164_24 rfl ?_
    refine w_iret s164_25 rk164 ?_
    exact ⟨by simp [x_heardA, *], rfl⟩
  · skip
    refine w_aload_n s164_7 rfl ?_
    refine w_iload_n s164_8 rfl ?_
    refine w_callV1r s164_9 (hw 0 _ rfl) ow135 mc164_135 rfl rfl (c135 hw iv _) ?_
    refine w_ifeqB s164_12 rfl  (fun c12 => ?_) (fun c12 => ?_)
    · skip
      refine w_iconst (v := (-1)) s164_24 rfl ?_
      refine w_iret s164_25 rk164 ?_
      exact ⟨by simp [x_heardA, *], rfl⟩
    · skip
      refine w_aload_n s164_15 rfl ?_
      refine w_iload_n s164_16 rfl ?_
      refine w_iload_n s164_17 rfl ?_
      refine w_callV2r s164_18 (hw 0 _ rfl) ow163 mc164_163 rfl rfl (c163 hw iv _ _) ?_
      refine w_goto s164_21 rfl ?_
      refine w_iret s164_25 rk164 ?_
      exact ⟨by simp [x_heardA, *], rfl⟩
theorem c165 {h : am_H} {cc : Nat → Nat} {aa : Nat → Nat → Int32} (hw : MW h cc aa) (iv : IV cc aa) (n k : Int32) : am_rd 165 [.ref 27, .int n, .int k] h (.int (x_hearers cc aa n k)) := by
  have n0 := iv.n0
  have n2 := iv.n2
  have n3 := iv.n3
  have n7 := iv.n7
  have n8 := iv.n8
  have n16 := iv.n16
  have n20 := iv.n20
  have n28 := iv.n28
  have n31 := iv.n31
  have n38 := iv.n38
  have n45 := iv.n45
  show am_wp _ (_, [_, _, _, _, _], _) _ _
  refine w_aload_n s165_0 rfl ?_
  refine w_iload_n s165_1 rfl ?_
  refine w_callV1r s165_2 (hw 0 _ rfl) ow135 mc165_135 rfl rfl (c135 hw iv _) ?_
  refine w_ifeqB s165_5 rfl  (fun c5 => ?_) (fun c5 => ?_)
  · skip
    refine w_iconst (v := (-1)) s165_18 rfl ?_
    refine w_iret s165_19 rk165 ?_
    exact ⟨by simp [x_hearers, *], rfl⟩
  · skip
    refine w_iload_n s165_8 rfl ?_
    refine w_iconst (v := 1) s165_9 rfl ?_
    refine w_bipush (v := 9) s165_10 rfl ?_
    refine w_callS3r s165_12 mc165_103 rfl rfl (c103 _ _ _ _) ?_
    refine w_ifneB s165_15 rfl  (fun c15 => ?_) (fun c15 => ?_)
    · skip
      refine w_iconst (v := 0) s165_20 rfl ?_
      refine w_istore_n s165_21 rfl ?_
      show am_wp _ (_, [_, _, _, _, _], _) _ _
      refine w_iconst (v := 0) s165_22 rfl ?_
      refine w_istore s165_23 rfl ?_
      show am_wp _ (_, [_, _, _, _, _], _) _ _
      refine am_lp (n := 10) (P := fun p => am_wp 165 (25, [_, _, _, some (.int (x_hr cc aa n k p)), some (.int (nI p))], []) h _) ?_ 0 (Nat.zero_le _)
      intro p hp ihp
      show am_wp _ (_, [_, _, _, _, _], _) _ _
      refine w_iload s165_25 rfl ?_
      refine w_bipush (v := 10) s165_27 rfl ?_
      refine w_icmpgeN (x := p) (y := 10) s165_29 rfl (by omega) (by omega)  (fun c29 => ?_) (fun c29 => ?_)
      · skip
        have e : p = 10 := by omega
        subst e
        refine w_iload_n s165_60 rfl ?_
        refine w_iret s165_61 rk165 ?_
        exact ⟨by simp [x_hearers, *], rfl⟩
      · skip
        refine w_iload_n s165_32 rfl ?_
        refine w_aload_n s165_33 rfl ?_
        refine w_iload s165_34 rfl ?_
        refine w_iload_n s165_36 rfl ?_
        refine w_callV2r s165_37 (hw 0 _ rfl) ow163 mc165_163 rfl rfl (c163 hw iv _ _) ?_
        refine w_iload_n s165_40 rfl ?_
        refine w_icmplt s165_41 rfl  (fun c41 => ?_) (fun c41 => ?_)
        · skip
          refine w_iconst (v := 0) s165_51 rfl ?_
          refine w_ior s165_52 rfl ?_
          refine w_istore_n s165_53 rfl ?_
          show am_wp _ (_, [_, _, _, _, _], _) _ _
          refine w_iinc s165_54 rfl (nI_inc (p)) rfl ?_
          show am_wp _ (_, [_, _, _, _, _], _) _ _
          refine w_goto s165_57 rfl ?_
          refine am_wp_l (am_cons rfl (am_cons rfl (am_cons rfl (am_cons (am_si ?_) (am_cons rfl rfl))))) (ihp (by omega))
          all_goals first | (clear ihp; simp [x_hr_s, x_hrf, *]; done) | (clear ihp; simp_all [x_hr_s, x_hrf]; done)
        · skip
          refine w_iconst (v := 1) s165_44 rfl ?_
          refine w_iload s165_45 rfl ?_
          refine w_ishl s165_47 rfl ?_
          refine w_goto s165_48 rfl ?_
          refine w_ior s165_52 rfl ?_
          refine w_istore_n s165_53 rfl ?_
          show am_wp _ (_, [_, _, _, _, _], _) _ _
          refine w_iinc s165_54 rfl (nI_inc (p)) rfl ?_
          show am_wp _ (_, [_, _, _, _, _], _) _ _
          refine w_goto s165_57 rfl ?_
          refine am_wp_l (am_cons rfl (am_cons rfl (am_cons rfl (am_cons (am_si ?_) (am_cons rfl rfl))))) (ihp (by omega))
          all_goals first | (clear ihp; simp [x_hr_s, x_hrf, *]; done) | (clear ihp; simp_all [x_hr_s, x_hrf]; done)
    · skip
      refine w_iconst (v := (-1)) s165_18 rfl ?_
      refine w_iret s165_19 rk165 ?_
      exact ⟨by simp [x_hearers, *], rfl⟩
theorem c168 {h : am_H} {cc : Nat → Nat} {aa : Nat → Nat → Int32} (hw : MW h cc aa) (iv : IV cc aa) (i : Int32) : am_rd 168 [.ref 27, .int i] h (.int (x_roundAt cc aa i)) := by
  have n0 := iv.n0
  have n2 := iv.n2
  have n3 := iv.n3
  have n7 := iv.n7
  have n8 := iv.n8
  have n16 := iv.n16
  have n20 := iv.n20
  have n28 := iv.n28
  have n31 := iv.n31
  have n38 := iv.n38
  have n45 := iv.n45
  show am_wp _ (_, [_, _], _) _ _
  refine w_iload_n s168_0 rfl ?_
  refine w_iconst (v := 0) s168_1 rfl ?_
  refine w_aload_n s168_2 rfl ?_
  refine w_getf s168_3 (hw 0 _ rfl) rfl ?_
  refine w_iconst (v := 1) s168_6 rfl ?_
  refine w_isub s168_7 rfl ?_
  refine w_callS3r s168_8 mc168_103 rfl rfl (c103 _ _ _ _) ?_
  rw [x_in_ix (show cc 45 < 2 ^ 31 by omega)]
  refine w_ifeqB s168_11 rfl  (fun c11 => ?_) (fun c11 => ?_)
  · skip
    refine w_bipush (v := (-9)) s168_23 rfl ?_
    refine w_iret s168_25 rk168 ?_
    exact ⟨by simp [x_roundAt, *], rfl⟩
  · skip
    obtain ⟨k, hk, rfl⟩ := x_ix_i c11
    have kcl := nI_clamp (show k < 2 ^ 31 by omega)
    refine w_aload_n s168_14 rfl ?_
    refine w_getf s168_15 (hw 0 _ rfl) rfl ?_
    refine w_iload_n s168_18 rfl ?_
    refine w_ialdN (y := k) s168_19 (hw 36 _ rfl) (by omega) (by decide) ?_
    refine w_goto s168_20 rfl ?_
    refine w_iret s168_25 rk168 ?_
    exact ⟨by simp [x_roundAt, *], rfl⟩
theorem c169 {h : am_H} {cc : Nat → Nat} {aa : Nat → Nat → Int32} (hw : MW h cc aa) (iv : IV cc aa) (n k i : Int32) : am_ev 169 [.ref 27, .int n, .int k, .int i] h (mQ h (S_joined cc aa n k i)) := by
  have fr := mFr.rf h
  have n0 := iv.n0
  have n2 := iv.n2
  have n3 := iv.n3
  have n7 := iv.n7
  have n8 := iv.n8
  have n16 := iv.n16
  have n20 := iv.n20
  have n28 := iv.n28
  have n31 := iv.n31
  have n38 := iv.n38
  have n45 := iv.n45
  by_cases ci : i < 0
  · skip
    show am_wp _ (_, [_, _, _, _, _, _], _) _ _
    refine w_aload_n s169_0 rfl ?_
    refine w_iload_n s169_1 rfl ?_
    refine w_callV1r s169_2 (hw 0 _ rfl) ow135 mc169_135 rfl rfl (c135 hw iv _) ?_
    refine w_ifeqB s169_5 rfl  (fun c5 => ?_) (fun c5 => ?_)
    · skip
      refine w_iconst (v := (-1)) s169_18 rfl ?_
      refine w_iret s169_19 rk169 ?_
      exact mq_end (by simp [S_joined, *] <;> first | rfl | exact ⟨rfl, rfl⟩ | exact ⟨rfl, rfl, rfl⟩) hw fr
    · skip
      obtain ⟨j, hj, rfl⟩ := x_ix_i c5
      have jcl := nI_clamp (show j < 2 ^ 31 by omega)
      refine w_iload_n s169_8 rfl ?_
      refine w_iconst (v := 1) s169_9 rfl ?_
      refine w_bipush (v := 16) s169_10 rfl ?_
      refine w_callS3r s169_12 mc169_103 rfl rfl (c103 _ _ _ _) ?_
      refine w_ifneB s169_15 rfl  (fun c15 => ?_) (fun c15 => ?_)
      · skip
        refine w_aload_n s169_20 rfl ?_
        refine w_getf s169_21 (hw 0 _ rfl) rfl ?_
        refine w_iload_n s169_24 rfl ?_
        refine w_ialdN (y := j) s169_25 (hw 15 _ rfl) (by omega) (by decide) ?_
        refine w_iconst (v := 4) s169_26 rfl ?_
        refine w_icmpeq s169_27 rfl  (fun c27 => ?_) (fun c27 => ?_)
        · skip
          have hn9 : x_nth (fun f => x_joins aa j f k) (cc 20) i = -9 := x_first_f (x_nth_g ci (by omega))
          refine w_iload_n s169_36 rfl ?_
          refine w_istore s169_37 rfl ?_
          show am_wp _ (_, [_, _, _, _, _, _], _) _ _
          refine w_iconst (v := 0) s169_39 rfl ?_
          refine w_istore s169_40 rfl ?_
          show am_wp _ (_, [_, _, _, _, _, _], _) _ _
          skip
          refine w_iload s169_42 rfl ?_
          refine w_aload_n s169_44 rfl ?_
          refine w_getf s169_45 (hw 0 _ rfl) rfl ?_
          refine w_icmpgeN (x := 0) (y := cc 20) s169_48 rfl (by omega) (by omega)  (fun c48 => ?_) (fun c48 => ?_)
          · skip
            refine w_bipush (v := (-9)) s169_84 rfl ?_
            refine w_iret s169_86 rk169 ?_
            exact mq_end (by simp [S_joined, *] <;> first | rfl | exact ⟨rfl, rfl⟩ | exact ⟨rfl, rfl, rfl⟩) hw fr
          · skip
            refine w_iload s169_51 rfl ?_
            refine w_iflt s169_53 rfl  (fun c53 => ?_) (fun c => False.elim (c ci))
            refine w_bipush (v := (-9)) s169_84 rfl ?_
            refine w_iret s169_86 rk169 ?_
            exact mq_end (by simp [S_joined, *] <;> first | rfl | exact ⟨rfl, rfl⟩ | exact ⟨rfl, rfl, rfl⟩) hw fr
        · skip
          refine w_aload_n s169_30 rfl ?_
          refine w_iconst (v := 3) s169_31 rfl ?_
          refine w_callV1 s169_32 (hw 0 _ rfl) ow104 mc169_104 rfl rfl (c104 hw 3 (by decide)) ?_
          rintro v h ⟨rfl, hw, fr2⟩
          replace fr := fr.tr fr2
          clear fr2
          show am_wp _ (_, _, Value.int (-3) :: _) _ _
          refine w_iret s169_35 rk169 ?_
          exact mq_end (by simp [S_joined, *] <;> first | rfl | exact ⟨rfl, rfl⟩ | exact ⟨rfl, rfl, rfl⟩) hw fr
      · skip
        refine w_iconst (v := (-1)) s169_18 rfl ?_
        refine w_iret s169_19 rk169 ?_
        exact mq_end (by simp [S_joined, *] <;> first | rfl | exact ⟨rfl, rfl⟩ | exact ⟨rfl, rfl, rfl⟩) hw fr
  · skip
    obtain ⟨a, ha, rfl⟩ := nI_of ci
    show am_wp _ (_, [_, _, _, _, _, _], _) _ _
    refine w_aload_n s169_0 rfl ?_
    refine w_iload_n s169_1 rfl ?_
    refine w_callV1r s169_2 (hw 0 _ rfl) ow135 mc169_135 rfl rfl (c135 hw iv _) ?_
    refine w_ifeqB s169_5 rfl  (fun c5 => ?_) (fun c5 => ?_)
    · skip
      refine w_iconst (v := (-1)) s169_18 rfl ?_
      refine w_iret s169_19 rk169 ?_
      exact mq_end (by simp [S_joined, *] <;> first | rfl | exact ⟨rfl, rfl⟩ | exact ⟨rfl, rfl, rfl⟩) hw fr
    · skip
      obtain ⟨j, hj, rfl⟩ := x_ix_i c5
      have jcl := nI_clamp (show j < 2 ^ 31 by omega)
      refine w_iload_n s169_8 rfl ?_
      refine w_iconst (v := 1) s169_9 rfl ?_
      refine w_bipush (v := 16) s169_10 rfl ?_
      refine w_callS3r s169_12 mc169_103 rfl rfl (c103 _ _ _ _) ?_
      refine w_ifneB s169_15 rfl  (fun c15 => ?_) (fun c15 => ?_)
      · skip
        refine w_aload_n s169_20 rfl ?_
        refine w_getf s169_21 (hw 0 _ rfl) rfl ?_
        refine w_iload_n s169_24 rfl ?_
        refine w_ialdN (y := j) s169_25 (hw 15 _ rfl) (by omega) (by decide) ?_
        refine w_iconst (v := 4) s169_26 rfl ?_
        refine w_icmpeq s169_27 rfl  (fun c27 => ?_) (fun c27 => ?_)
        · skip
          refine w_iload_n s169_36 rfl ?_
          refine w_istore s169_37 rfl ?_
          show am_wp _ (_, [_, _, _, _, _, _], _) _ _
          refine w_iconst (v := 0) s169_39 rfl ?_
          refine w_istore s169_40 rfl ?_
          show am_wp _ (_, [_, _, _, _, _, _], _) _ _
          refine am_lp (n := cc 20) (P := fun f => x_any (x_np (fun f => x_joins aa j f k) (nI a)) f = false → x_ct (fun f => x_joins aa j f k) f ≤ a → am_wp 169 (42, [_, _, _, _, some (.int (nI (a - x_ct (fun f => x_joins aa j f k) f))), some (.int (nI f))], []) h _) ?_ 0 (Nat.zero_le _) rfl (Nat.zero_le _)
          intro f hf ihk hzk hca
          show am_wp _ (_, [_, _, _, _, _, _], _) _ _
          refine w_iload s169_42 rfl ?_
          refine w_aload_n s169_44 rfl ?_
          refine w_getf s169_45 (hw 0 _ rfl) rfl ?_
          refine w_icmpgeN (x := f) (y := cc 20) s169_48 rfl (by omega) (by omega)  (fun c48 => ?_) (fun c48 => ?_)
          · skip
            have e : f = cc 20 := by omega
            subst e
            have hn9 : x_nth (fun f => x_joins aa j f k) (cc 20) (nI a) = -9 := x_first_f hzk
            refine w_bipush (v := (-9)) s169_84 rfl ?_
            refine w_iret s169_86 rk169 ?_
            exact mq_end (by simp [S_joined, *] <;> first | rfl | exact ⟨rfl, rfl⟩ | exact ⟨rfl, rfl, rfl⟩) hw fr
          · skip
            have hct := x_ct_le (fun f => x_joins aa j f k) f
            refine w_iload s169_51 rfl ?_
            refine w_iflt s169_53 rfl  (fun c => False.elim (nI_pos (by omega) c)) (fun c53 => ?_)
            refine w_aload_n s169_56 rfl ?_
            refine w_iload_n s169_57 rfl ?_
            refine w_iload s169_58 rfl ?_
            refine w_iload_n s169_60 rfl ?_
            refine w_callV3r s169_61 (hw 0 _ rfl) ow143 mc169_143 rfl rfl (c143 hw n20 j f (by omega) (by omega) _) ?_
            refine w_ifeqB s169_64 rfl  (fun c64 => ?_) (fun c64 => ?_)
            · skip
              have hnp : x_np (fun f => x_joins aa j f k) (nI a) f = false := by unfold x_np; simp [c64]
              have hcs : x_ct (fun f => x_joins aa j f k) (f + 1) = x_ct (fun f => x_joins aa j f k) f := by rw [x_ct_s]; simp [c64]
              refine w_iinc s169_78 rfl (nI_inc (f)) rfl ?_
              show am_wp _ (_, [_, _, _, _, _, _], _) _ _
              refine w_goto s169_81 rfl ?_
              have ew := ihk (by omega) (by rw [x_any_s, hzk, hnp]; rfl) (by omega)
              rw [hcs] at ew
              first | exact ew | (rw [← Nat.sub_sub] at ew; exact ew)
            · skip
              refine w_iload s169_67 rfl ?_
              refine w_ifneN (x := (a - x_ct (fun f => x_joins aa j f k) f)) s169_69 rfl (by omega)  (fun c69 => ?_) (fun c69 => ?_)
              · skip
                have hnp : x_np (fun f => x_joins aa j f k) (nI a) f = false := by unfold x_np; rw [decide_eq_false (fun e => c69 (by have := (nI_eq (by omega) (by omega)).mp e; omega)), Bool.and_false]
                have hcs : x_ct (fun f => x_joins aa j f k) (f + 1) = x_ct (fun f => x_joins aa j f k) f + 1 := by rw [x_ct_s]; simp [c64]
                refine w_iinc s169_75 rfl (show nI (a - x_ct (fun f => x_joins aa j f k) f) + Int32.ofInt (-1) = nI (a - x_ct (fun f => x_joins aa j f k) f - 1) from by rw [show a - x_ct (fun f => x_joins aa j f k) f = (a - x_ct (fun f => x_joins aa j f k) f - 1) + 1 by omega]; exact pk_m1 _) rfl ?_
                show am_wp _ (_, [_, _, _, _, _, _], _) _ _
                refine w_iinc s169_78 rfl (nI_inc (f)) rfl ?_
                show am_wp _ (_, [_, _, _, _, _, _], _) _ _
                refine w_goto s169_81 rfl ?_
                have ew := ihk (by omega) (by rw [x_any_s, hzk, hnp]; rfl) (by omega)
                rw [hcs] at ew
                first | exact ew | (rw [← Nat.sub_sub] at ew; exact ew)
              · skip
                have hnp : x_np (fun f => x_joins aa j f k) (nI a) f = true := by unfold x_np; rw [decide_eq_true (show nI (x_ct (fun f => x_joins aa j f k) f) = nI a by rw [show x_ct (fun f => x_joins aa j f k) f = a by omega]), Bool.and_true]; exact c64
                have hnk : x_nth (fun f => x_joins aa j f k) (cc 20) (nI a) = nI f := x_first_t hzk hnp _ (by omega)
                refine w_iload s169_72 rfl ?_
                refine w_iret s169_74 rk169 ?_
                exact mq_end (by simp [S_joined, *] <;> first | rfl | exact ⟨rfl, rfl⟩ | exact ⟨rfl, rfl, rfl⟩) hw fr
        · skip
          refine w_aload_n s169_30 rfl ?_
          refine w_iconst (v := 3) s169_31 rfl ?_
          refine w_callV1 s169_32 (hw 0 _ rfl) ow104 mc169_104 rfl rfl (c104 hw 3 (by decide)) ?_
          rintro v h ⟨rfl, hw, fr2⟩
          replace fr := fr.tr fr2
          clear fr2
          show am_wp _ (_, _, Value.int (-3) :: _) _ _
          refine w_iret s169_35 rk169 ?_
          exact mq_end (by simp [S_joined, *] <;> first | rfl | exact ⟨rfl, rfl⟩ | exact ⟨rfl, rfl, rfl⟩) hw fr
      · skip
        refine w_iconst (v := (-1)) s169_18 rfl ?_
        refine w_iret s169_19 rk169 ?_
        exact mq_end (by simp [S_joined, *] <;> first | rfl | exact ⟨rfl, rfl⟩ | exact ⟨rfl, rfl, rfl⟩) hw fr
theorem c170 {h : am_H} {cc : Nat → Nat} {aa : Nat → Nat → Int32} (hw : MW h cc aa) (w : Int32) : am_rd 170 [.ref 27, .int w] h (.int (x_counts cc w)) := by
  show am_wp _ (_, [_, _], _) _ _
  refine w_iload_n s170_0 rfl ?_
  rcases x_sw w 0 5 (by decide) (by decide) with hq | ⟨j1, hj1, hj2, hj3⟩
  · skip
    refine w_tswO s170_1 hq rfl ?_
    have d0 : ¬ w = 0 := fun e => by rw [e] at hq; revert hq; decide
    have d1 : ¬ w = 1 := fun e => by rw [e] at hq; revert hq; decide
    have d2 : ¬ w = 2 := fun e => by rw [e] at hq; revert hq; decide
    have d3 : ¬ w = 3 := fun e => by rw [e] at hq; revert hq; decide
    have d4 : ¬ w = 4 := fun e => by rw [e] at hq; revert hq; decide
    have d5 : ¬ w = 5 := fun e => by rw [e] at hq; revert hq; decide
    refine w_aload_n s170_70 rfl ?_
    refine w_getf s170_71 (hw 0 _ rfl) rfl ?_
    refine w_iret s170_74 rk170 ?_
    exact ⟨by simp [x_counts, *], rfl⟩
  · skip
    obtain (rfl | rfl | rfl | rfl | rfl | rfl) : j1 = 0 ∨ j1 = 1 ∨ j1 = 2 ∨ j1 = 3 ∨ j1 = 4 ∨ j1 = 5 := by omega
    · skip
      have hj4 : w = 0 := hj3
      clear hj3
      subst hj4
      refine w_tswI (n := 0) s170_1 (by decide) rfl rfl rfl ?_
      refine w_aload_n s170_40 rfl ?_
      refine w_getf s170_41 (hw 0 _ rfl) rfl ?_
      refine w_iret s170_44 rk170 ?_
      exact ⟨by simp [x_counts, *], rfl⟩
    · skip
      have hj4 : w = 1 := hj3
      clear hj3
      subst hj4
      refine w_tswI (n := 1) s170_1 (by decide) rfl rfl rfl ?_
      refine w_aload_n s170_45 rfl ?_
      refine w_getf s170_46 (hw 0 _ rfl) rfl ?_
      refine w_iret s170_49 rk170 ?_
      exact ⟨by simp [x_counts, *], rfl⟩
    · skip
      have hj4 : w = 2 := hj3
      clear hj3
      subst hj4
      refine w_tswI (n := 2) s170_1 (by decide) rfl rfl rfl ?_
      refine w_aload_n s170_50 rfl ?_
      refine w_getf s170_51 (hw 0 _ rfl) rfl ?_
      refine w_iret s170_54 rk170 ?_
      exact ⟨by simp [x_counts, *], rfl⟩
    · skip
      have hj4 : w = 3 := hj3
      clear hj3
      subst hj4
      refine w_tswI (n := 3) s170_1 (by decide) rfl rfl rfl ?_
      refine w_aload_n s170_55 rfl ?_
      refine w_getf s170_56 (hw 0 _ rfl) rfl ?_
      refine w_iret s170_59 rk170 ?_
      exact ⟨by simp [x_counts, *], rfl⟩
    · skip
      have hj4 : w = 4 := hj3
      clear hj3
      subst hj4
      refine w_tswI (n := 4) s170_1 (by decide) rfl rfl rfl ?_
      refine w_aload_n s170_60 rfl ?_
      refine w_getf s170_61 (hw 0 _ rfl) rfl ?_
      refine w_iret s170_64 rk170 ?_
      exact ⟨by simp [x_counts, *], rfl⟩
    · skip
      have hj4 : w = 5 := hj3
      clear hj3
      subst hj4
      refine w_tswI (n := 5) s170_1 (by decide) rfl rfl rfl ?_
      refine w_aload_n s170_65 rfl ?_
      refine w_getf s170_66 (hw 0 _ rfl) rfl ?_
      refine w_iret s170_69 rk170 ?_
      exact ⟨by simp [x_counts, *], rfl⟩
theorem c171 {h : am_H} {cc : Nat → Nat} {aa : Nat → Nat → Int32} (hw : MW h cc aa) (w : Int32) : am_rd 171 [.ref 27, .int w] h (.int (x_count cc w)) := by
  show am_wp _ (_, [_, _], _) _ _
  refine w_iload_n s171_0 rfl ?_
  refine w_iconst (v := 0) s171_1 rfl ?_
  refine w_bipush (v := 6) s171_2 rfl ?_
  refine w_callS3r s171_4 mc171_103 rfl rfl (c103 _ _ _ _) ?_
  refine w_ifeqB s171_7 rfl  (fun c7 => ?_) (fun c7 => ?_)
  · skip
    refine w_iconst (v := (-1)) s171_18 rfl ?_
    refine w_iret s171_19 rk171 ?_
    exact ⟨by simp [x_count, *], rfl⟩
  · skip
    refine w_aload_n s171_10 rfl ?_
    refine w_iload_n s171_11 rfl ?_
    refine w_callV1r s171_12 (hw 0 _ rfl) ow170 mc171_170 rfl rfl (c170 hw _) ?_
    refine w_goto s171_15 rfl ?_
    refine w_iret s171_19 rk171 ?_
    exact ⟨by simp [x_count, *], rfl⟩
theorem c172 {h : am_H} {cc : Nat → Nat} {aa : Nat → Nat → Int32} (hw : MW h cc aa) : am_rd 172 [.ref 27] h (.int (nI (cc 0))) := by
  show am_wp _ (_, [_], _) _ _
  refine w_aload_n s172_0 rfl ?_
  refine w_getf s172_1 (hw 0 _ rfl) rfl ?_
  refine w_iret s172_4 rk172 ?_
  exact ⟨rfl, rfl⟩
theorem c173 {h : am_H} {cc : Nat → Nat} {aa : Nat → Nat → Int32} (hw : MW h cc aa) (f : Int32) : am_rd 173 [.ref 27, .int f] h (.int (x_finds aa f)) := by
  show am_wp _ (_, [_, _], _) _ _
  refine w_iload_n s173_0 rfl ?_
  refine w_iconst (v := 1) s173_1 rfl ?_
  refine w_iconst (v := 5) s173_2 rfl ?_
  refine w_callS3r s173_3 mc173_103 rfl rfl (c103 _ _ _ _) ?_
  refine w_ifeqB s173_6 rfl  (fun c6 => ?_) (fun c6 => ?_)
  · skip
    refine w_iconst (v := (-1)) s173_18 rfl ?_
    refine w_iret s173_19 rk173 ?_
    exact ⟨by simp [x_finds, *], rfl⟩
  · skip
    obtain ⟨k, hk1, hk2, rfl⟩ := x_in_n2 (a := 1) (b := 5) c6 (by decide) (by decide)
    have kcl := nI_clamp (show k < 2 ^ 31 by omega)
    refine w_aload_n s173_9 rfl ?_
    refine w_getf s173_10 (hw 0 _ rfl) rfl ?_
    refine w_iload_n s173_13 rfl ?_
    refine w_ialdN (y := k) s173_14 (hw 1 _ rfl) (by omega) (by decide) ?_
    refine w_goto s173_15 rfl ?_
    refine w_iret s173_19 rk173 ?_
    exact ⟨by simp [x_finds, *], rfl⟩
theorem c174 {h : am_H} {cc : Nat → Nat} {aa : Nat → Nat → Int32} (hw : MW h cc aa) (iv : IV cc aa) : am_rd 174 [.ref 27] h (.long (x_digest cc aa)) := by
  have n0 := iv.n0
  have n2 := iv.n2
  have n3 := iv.n3
  have n7 := iv.n7
  have n8 := iv.n8
  have n16 := iv.n16
  have n20 := iv.n20
  have n28 := iv.n28
  have n31 := iv.n31
  have n38 := iv.n38
  have n45 := iv.n45
  show am_wp _ (_, [_, _, _, _, _], _) _ _
  refine w_ldc2 (v := 17) s174_0 rfl ?_
  refine w_lstore_n s174_3 rfl ?_
  show am_wp _ (_, [_, _, _, _, _], _) _ _
  refine w_iconst (v := 0) s174_4 rfl ?_
  refine w_istore_n s174_5 rfl ?_
  show am_wp _ (_, [_, _, _, _, _], _) _ _
  refine am_wp_l (am_cons rfl (am_cons (am_sl8 ?_) (am_cons rfl (am_cons rfl (am_cons rfl rfl))))) (am_lp (n := 7) (P := fun u => am_wp 174 (6, [_, some (.long (x_d0 cc u)), _, some (.int (nI u)), _], []) h _) ?_ 0 (Nat.zero_le _))
  · simp [x_d0_0, *]
  intro u hu ihu
  show am_wp _ (_, [_, _, _, _, _], _) _ _
  refine w_iload_n s174_6 rfl ?_
  refine w_bipush (v := 6) s174_7 rfl ?_
  refine w_icmpgtN (x := u) (y := 6) s174_9 rfl (by omega) (by omega)  (fun c9 => ?_) (fun c9 => ?_)
  · skip
    have e : u = 7 := by omega
    subst e
    refine w_iconst (v := 0) s174_31 rfl ?_
    refine w_istore_n s174_32 rfl ?_
    show am_wp _ (_, [_, _, _, _, _], _) _ _
    refine am_wp_l (am_cons rfl (am_cons (am_sl8 ?_) (am_cons rfl (am_cons rfl (am_cons rfl rfl))))) (am_lp (n := cc 20) (P := fun n => ∀ v4 : Option Value, am_wp 174 (33, [_, some (.long (x_d1 cc aa n)), _, some (.int (nI n)), v4], []) h _) ?_ 0 (Nat.zero_le _) _)
    · simp [x_d1_0, *]
    intro n hn ihn v4
    show am_wp _ (_, [_, _, _, _, _], _) _ _
    refine w_iload_n s174_33 rfl ?_
    refine w_aload_n s174_34 rfl ?_
    refine w_getf s174_35 (hw 0 _ rfl) rfl ?_
    refine w_icmpgeN (x := n) (y := cc 20) s174_38 rfl (by omega) (by omega)  (fun c38 => ?_) (fun c38 => ?_)
    · skip
      have e : n = cc 20 := by omega
      subst e
      refine w_iconst (v := 0) s174_78 rfl ?_
      refine w_istore_n s174_79 rfl ?_
      show am_wp _ (_, [_, _, _, _, _], _) _ _
      refine am_wp_l (am_cons rfl (am_cons (am_sl8 ?_) (am_cons rfl (am_cons rfl (am_cons rfl rfl))))) (am_lp (n := cc 31) (P := fun i => ∀ v4 : Option Value, am_wp 174 (80, [_, some (.long (x_d2 cc aa i)), _, some (.int (nI i)), v4], []) h _) ?_ 0 (Nat.zero_le _) _)
      · simp [x_d2_0, *]
      intro i hi ihi v4
      show am_wp _ (_, [_, _, _, _, _], _) _ _
      refine w_iload_n s174_80 rfl ?_
      refine w_aload_n s174_81 rfl ?_
      refine w_getf s174_82 (hw 0 _ rfl) rfl ?_
      refine w_icmpgeN (x := i) (y := cc 31) s174_85 rfl (by omega) (by omega)  (fun c85 => ?_) (fun c85 => ?_)
      · skip
        have e : i = cc 31 := by omega
        subst e
        refine w_iconst (v := 0) s174_124 rfl ?_
        refine w_istore_n s174_125 rfl ?_
        show am_wp _ (_, [_, _, _, _, _], _) _ _
        refine am_wp_l (am_cons rfl (am_cons (am_sl8 ?_) (am_cons rfl (am_cons rfl (am_cons rfl rfl))))) (am_lp (n := cc 28) (P := fun c => am_wp 174 (126, [_, some (.long (x_d3 cc aa c)), _, some (.int (nI c)), _], []) h _) ?_ 0 (Nat.zero_le _))
        · simp [x_d3_0, *]
        intro c hc ihc
        show am_wp _ (_, [_, _, _, _, _], _) _ _
        refine w_iload_n s174_126 rfl ?_
        refine w_aload_n s174_127 rfl ?_
        refine w_getf s174_128 (hw 0 _ rfl) rfl ?_
        refine w_icmpgeN (x := c) (y := cc 28) s174_131 rfl (by omega) (by omega)  (fun c131 => ?_) (fun c131 => ?_)
        · skip
          have e : c = cc 28 := by omega
          subst e
          refine w_iconst (v := 0) s174_166 rfl ?_
          refine w_istore_n s174_167 rfl ?_
          show am_wp _ (_, [_, _, _, _, _], _) _ _
          refine am_wp_l (am_cons rfl (am_cons (am_sl8 ?_) (am_cons rfl (am_cons rfl (am_cons rfl rfl))))) (am_lp (n := 4) (P := fun s => ∀ v4 : Option Value, am_wp 174 (168, [_, some (.long (x_d4 cc aa s)), _, some (.int (nI s)), v4], []) h _) ?_ 0 (Nat.zero_le _) _)
          · simp [x_d4_0, *]
          intro s hs ihs v4
          show am_wp _ (_, [_, _, _, _, _], _) _ _
          refine w_iload_n s174_168 rfl ?_
          refine w_iconst (v := 4) s174_169 rfl ?_
          refine w_icmpgeN (x := s) (y := 4) s174_170 rfl (by omega) (by omega)  (fun c170 => ?_) (fun c170 => ?_)
          · skip
            have e : s = 4 := by omega
            subst e
            refine w_lload_n s174_246 rfl ?_
            refine w_lret s174_247 rk174 ?_
            exact ⟨rfl, rfl⟩
          · skip
            refine w_ldc2 (v := 31) s174_173 rfl ?_
            refine w_lload_n s174_176 rfl ?_
            refine w_lmul s174_177 rfl ?_
            refine w_aload_n s174_178 rfl ?_
            refine w_getf s174_179 (hw 0 _ rfl) rfl ?_
            refine w_iload_n s174_182 rfl ?_
            refine w_ialdN (y := s) s174_183 (hw 9 _ rfl) (by omega) (by decide) ?_
            refine w_ifge s174_184 rfl  (fun c184 => ?_) (fun c184 => ?_)
            · skip
              obtain ⟨z, hz, ez⟩ : ∃ z, z ≤ 80 ∧ aa 13 s = nI z := (iv.sz s c170).resolve_left (fun e => absurd c184 (by rw [e]; decide))
              have zc := nI_clamp (show z < 2 ^ 31 by omega)
              have zp : ¬ nI z < 0 := nI_pos (by omega)
              refine w_aload_n s174_191 rfl ?_
              refine w_getf s174_192 (hw 0 _ rfl) rfl ?_
              refine w_iload_n s174_195 rfl ?_
              refine w_ialdN (y := s) s174_196 (hw 9 _ rfl) (by omega) (by decide) ?_
              refine w_i2l s174_197 rfl ?_
              refine w_ladd s174_198 rfl ?_
              refine w_lstore_n s174_199 rfl ?_
              show am_wp _ (_, [_, _, _, _, _], _) _ _
              refine w_iconst (v := 0) s174_200 rfl ?_
              refine w_istore s174_201 rfl ?_
              show am_wp _ (_, [_, _, _, _, _], _) _ _
              refine am_wp_l (am_cons rfl (am_cons (am_sl8 ?_) (am_cons rfl (am_cons rfl (am_cons rfl rfl))))) (am_lp (n := z) (P := fun k => am_wp 174 (203, [_, some (.long (x_d4w aa s (x_d4 cc aa s) k)), _, _, some (.int (nI k))], []) h _) ?_ 0 (Nat.zero_le _))
              · simp [x_d4w_0, *]
              intro k hk ihk
              show am_wp _ (_, [_, _, _, _, _], _) _ _
              refine w_iload s174_203 rfl ?_
              refine w_aload_n s174_205 rfl ?_
              refine w_getf s174_206 (hw 0 _ rfl) rfl ?_
              refine w_iload_n s174_209 rfl ?_
              refine w_ialdV (y := s) (v := nI z) s174_210 (hw 9 _ rfl) (by omega) (by decide) ez ?_
              refine w_icmpgeN (x := k) (y := z) s174_211 rfl (by omega) (by omega)  (fun c211 => ?_) (fun c211 => ?_)
              · skip
                have e : k = z := by omega
                subst e
                refine w_iinc s174_240 rfl (nI_inc (s)) rfl ?_
                show am_wp _ (_, [_, _, _, _, _], _) _ _
                refine w_goto s174_243 rfl ?_
                refine am_wp_l (am_cons rfl (am_cons (am_sl8 ?_) (am_cons rfl (am_cons rfl (am_cons rfl rfl))))) (ihs (by omega) _)
                all_goals first | (clear ihs; simp [x_d4_s, x_d4w_0, *]; done) | (clear ihs; simp_all [x_d4_s, x_d4w_0]; done)
              · skip
                refine w_ldc2 (v := 31) s174_214 rfl ?_
                refine w_lload_n s174_217 rfl ?_
                refine w_lmul s174_218 rfl ?_
                refine w_aload_n s174_219 rfl ?_
                refine w_getf s174_220 (hw 0 _ rfl) rfl ?_
                refine w_bipush (v := 80) s174_223 rfl ?_
                refine w_iload_n s174_225 rfl ?_
                refine w_imulN (x := 80) (y := s) s174_226 ?_
                refine w_iload s174_227 rfl ?_
                refine w_iaddN (x := (80 * s)) (y := k) s174_229 ?_
                refine w_ialdN (y := ((80 * s) + k)) s174_230 (hw 10 _ rfl) (by omega) (by decide) ?_
                refine w_i2l s174_231 rfl ?_
                refine w_ladd s174_232 rfl ?_
                refine w_lstore_n s174_233 rfl ?_
                show am_wp _ (_, [_, _, _, _, _], _) _ _
                refine w_iinc s174_234 rfl (nI_inc (k)) rfl ?_
                show am_wp _ (_, [_, _, _, _, _], _) _ _
                refine w_goto s174_237 rfl ?_
                refine am_wp_l (am_cons rfl (am_cons (am_sl8 ?_) (am_cons rfl (am_cons rfl (am_cons rfl rfl))))) (ihk (by omega))
                rw [x_d4w_s]
            · skip
              have ez : aa 13 s = -9 := (iv.sz s c170).resolve_right (fun ⟨z, hz, e⟩ => c184 (by rw [e]; exact nI_pos' (by omega)))
              have z9 : tn (-9) = 0 := by decide
              refine w_iconst (v := (-1)) s174_187 rfl ?_
              refine w_goto s174_188 rfl ?_
              refine w_i2l s174_197 rfl ?_
              refine w_ladd s174_198 rfl ?_
              refine w_lstore_n s174_199 rfl ?_
              show am_wp _ (_, [_, _, _, _, _], _) _ _
              refine w_iconst (v := 0) s174_200 rfl ?_
              refine w_istore s174_201 rfl ?_
              show am_wp _ (_, [_, _, _, _, _], _) _ _
              skip
              refine w_iload s174_203 rfl ?_
              refine w_aload_n s174_205 rfl ?_
              refine w_getf s174_206 (hw 0 _ rfl) rfl ?_
              refine w_iload_n s174_209 rfl ?_
              refine w_ialdV (y := s) (v := -9) s174_210 (hw 9 _ rfl) (by omega) (by decide) ez ?_
              refine w_icmpge s174_211 rfl  (fun c211 => ?_) (fun c => absurd c (by decide))
              refine w_iinc s174_240 rfl (nI_inc (s)) rfl ?_
              show am_wp _ (_, [_, _, _, _, _], _) _ _
              refine w_goto s174_243 rfl ?_
              refine am_wp_l (am_cons rfl (am_cons (am_sl8 ?_) (am_cons rfl (am_cons rfl (am_cons rfl rfl))))) (ihs (by omega) _)
              all_goals first | (clear ihs; simp [x_d4_s, x_d4w_0, *]; done) | (clear ihs; simp_all [x_d4_s, x_d4w_0]; done)
        · skip
          refine w_ldc2 (v := 31) s174_134 rfl ?_
          refine w_ldc2 (v := 31) s174_137 rfl ?_
          refine w_lload_n s174_140 rfl ?_
          refine w_lmul s174_141 rfl ?_
          refine w_aload_n s174_142 rfl ?_
          refine w_getf s174_143 (hw 0 _ rfl) rfl ?_
          refine w_iload_n s174_146 rfl ?_
          refine w_ialdN (y := c) s174_147 (hw 22 _ rfl) (by omega) (by decide) ?_
          refine w_i2l s174_148 rfl ?_
          refine w_ladd s174_149 rfl ?_
          refine w_lmul s174_150 rfl ?_
          refine w_aload_n s174_151 rfl ?_
          refine w_getf s174_152 (hw 0 _ rfl) rfl ?_
          refine w_iload_n s174_155 rfl ?_
          refine w_ialdN (y := c) s174_156 (hw 23 _ rfl) (by omega) (by decide) ?_
          refine w_i2l s174_157 rfl ?_
          refine w_ladd s174_158 rfl ?_
          refine w_lstore_n s174_159 rfl ?_
          show am_wp _ (_, [_, _, _, _, _], _) _ _
          refine w_iinc s174_160 rfl (nI_inc (c)) rfl ?_
          show am_wp _ (_, [_, _, _, _, _], _) _ _
          refine w_goto s174_163 rfl ?_
          refine am_wp_l (am_cons rfl (am_cons (am_sl8 ?_) (am_cons rfl (am_cons rfl (am_cons rfl rfl))))) (ihc (by omega))
          all_goals first | (clear ihc; simp [x_d3_s, *]; done) | (clear ihc; simp_all [x_d3_s]; done)
      · skip
        refine w_iconst (v := 0) s174_88 rfl ?_
        refine w_istore s174_89 rfl ?_
        show am_wp _ (_, [_, _, _, _, _], _) _ _
        refine am_wp_l (am_cons rfl (am_cons (am_sl8 ?_) (am_cons rfl (am_cons rfl (am_cons rfl rfl))))) (am_lp (n := 6) (P := fun u => am_wp 174 (91, [_, some (.long (x_d2w aa i (x_d2 cc aa i) u)), _, _, some (.int (nI u))], []) h _) ?_ 0 (Nat.zero_le _))
        · simp [x_d2w_0, *]
        intro u hu ihu
        show am_wp _ (_, [_, _, _, _, _], _) _ _
        refine w_iload s174_91 rfl ?_
        refine w_iconst (v := 5) s174_93 rfl ?_
        refine w_icmpgtN (x := u) (y := 5) s174_94 rfl (by omega) (by omega)  (fun c94 => ?_) (fun c94 => ?_)
        · skip
          have e : u = 6 := by omega
          subst e
          refine w_iinc s174_118 rfl (nI_inc (i)) rfl ?_
          show am_wp _ (_, [_, _, _, _, _], _) _ _
          refine w_goto s174_121 rfl ?_
          refine am_wp_l (am_cons rfl (am_cons (am_sl8 ?_) (am_cons rfl (am_cons rfl (am_cons rfl rfl))))) (ihi (by omega) _)
          all_goals first | (clear ihi; simp [x_d2_s, *]; done) | (clear ihi; simp_all [x_d2_s]; done)
        · skip
          refine w_ldc2 (v := 31) s174_97 rfl ?_
          refine w_lload_n s174_100 rfl ?_
          refine w_lmul s174_101 rfl ?_
          refine w_aload_n s174_102 rfl ?_
          refine w_iload_n s174_103 rfl ?_
          refine w_iload s174_104 rfl ?_
          refine w_callV2r s174_106 (hw 0 _ rfl) ow156 mc174_156 rfl rfl (c156 hw n31 i (by omega) _) ?_
          refine w_i2l s174_109 rfl ?_
          refine w_ladd s174_110 rfl ?_
          refine w_lstore_n s174_111 rfl ?_
          show am_wp _ (_, [_, _, _, _, _], _) _ _
          refine w_iinc s174_112 rfl (nI_inc (u)) rfl ?_
          show am_wp _ (_, [_, _, _, _, _], _) _ _
          refine w_goto s174_115 rfl ?_
          refine am_wp_l (am_cons rfl (am_cons (am_sl8 ?_) (am_cons rfl (am_cons rfl (am_cons rfl rfl))))) (ihu (by omega))
          all_goals first | (clear ihu; simp [x_d2w_s, *]; done) | (clear ihu; simp_all [x_d2w_s]; done)
    · skip
      refine w_iconst (v := 0) s174_41 rfl ?_
      refine w_istore s174_42 rfl ?_
      show am_wp _ (_, [_, _, _, _, _], _) _ _
      refine am_wp_l (am_cons rfl (am_cons (am_sl8 ?_) (am_cons rfl (am_cons rfl (am_cons rfl rfl))))) (am_lp (n := 7) (P := fun u => am_wp 174 (44, [_, some (.long (x_d1w cc aa n (x_d1 cc aa n) u)), _, _, some (.int (nI u))], []) h _) ?_ 0 (Nat.zero_le _))
      · simp [x_d1w_0, *]
      intro u hu ihu
      show am_wp _ (_, [_, _, _, _, _], _) _ _
      refine w_iload s174_44 rfl ?_
      refine w_bipush (v := 6) s174_46 rfl ?_
      refine w_icmpgtN (x := u) (y := 6) s174_48 rfl (by omega) (by omega)  (fun c48 => ?_) (fun c48 => ?_)
      · skip
        have e : u = 7 := by omega
        subst e
        refine w_iinc s174_72 rfl (nI_inc (n)) rfl ?_
        show am_wp _ (_, [_, _, _, _, _], _) _ _
        refine w_goto s174_75 rfl ?_
        refine am_wp_l (am_cons rfl (am_cons (am_sl8 ?_) (am_cons rfl (am_cons rfl (am_cons rfl rfl))))) (ihn (by omega) _)
        all_goals first | (clear ihn; simp [x_d1_s, *]; done) | (clear ihn; simp_all [x_d1_s]; done)
      · skip
        refine w_ldc2 (v := 31) s174_51 rfl ?_
        refine w_lload_n s174_54 rfl ?_
        refine w_lmul s174_55 rfl ?_
        refine w_aload_n s174_56 rfl ?_
        refine w_iload_n s174_57 rfl ?_
        refine w_iload s174_58 rfl ?_
        refine w_callV2r s174_60 (hw 0 _ rfl) ow140 mc174_140 rfl rfl (c140 hw iv n (by omega) _) ?_
        refine w_i2l s174_63 rfl ?_
        refine w_ladd s174_64 rfl ?_
        refine w_lstore_n s174_65 rfl ?_
        show am_wp _ (_, [_, _, _, _, _], _) _ _
        refine w_iinc s174_66 rfl (nI_inc (u)) rfl ?_
        show am_wp _ (_, [_, _, _, _, _], _) _ _
        refine w_goto s174_69 rfl ?_
        refine am_wp_l (am_cons rfl (am_cons (am_sl8 ?_) (am_cons rfl (am_cons rfl (am_cons rfl rfl))))) (ihu (by omega))
        all_goals first | (clear ihu; simp [x_d1w_s, *]; done) | (clear ihu; simp_all [x_d1w_s]; done)
  · skip
    refine w_ldc2 (v := 31) s174_12 rfl ?_
    refine w_lload_n s174_15 rfl ?_
    refine w_lmul s174_16 rfl ?_
    refine w_aload_n s174_17 rfl ?_
    refine w_iload_n s174_18 rfl ?_
    refine w_callV1r s174_19 (hw 0 _ rfl) ow170 mc174_170 rfl rfl (c170 hw _) ?_
    refine w_i2l s174_22 rfl ?_
    refine w_ladd s174_23 rfl ?_
    refine w_lstore_n s174_24 rfl ?_
    show am_wp _ (_, [_, _, _, _, _], _) _ _
    refine w_iinc s174_25 rfl (nI_inc (u)) rfl ?_
    show am_wp _ (_, [_, _, _, _, _], _) _ _
    refine w_goto s174_28 rfl ?_
    refine am_wp_l (am_cons rfl (am_cons (am_sl8 ?_) (am_cons rfl (am_cons rfl (am_cons rfl rfl))))) (ihu (by omega))
    all_goals first | (clear ihu; simp [x_d0_s, *]; done) | (clear ihu; simp_all [x_d0_s]; done)
