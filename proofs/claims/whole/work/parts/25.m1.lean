/-! the reference's tests and small sums -/
def x_in (v lo hi : Int32) : Bool := decide (lo ≤ v) && decide (v ≤ hi)
def x_has (w k : Int32) : Bool := decide ((w >>> (k &&& 31)) &&& 1 = 1)
def x_ix (n : Nat) (s : Int32) : Bool := decide (0 ≤ s.toInt ∧ s.toInt < n)
theorem x_ix_i {n : Nat} {s : Int32} (h : x_ix n s = true) : ∃ j, j < n ∧ s = nI j := by
  have h1 := of_decide_eq_true h
  refine ⟨s.toInt.toNat, by omega, ?_⟩
  apply Int32.toInt_inj.mp
  have h2 := s.toInt_lt
  rw [nI_toInt (by omega)]
  omega
theorem x_ix_n {n j : Nat} (hj : j < n) (hn : n < 2 ^ 31) : x_ix n (nI j) = true := by
  apply decide_eq_true
  rw [nI_toInt (by omega)]
  omega
theorem x_ix_o {n j : Nat} (hj : n ≤ j) (hn : j < 2 ^ 31) : x_ix n (nI j) = false := by
  apply decide_eq_false
  rw [nI_toInt (by omega)]
  omega
theorem am_outx {n : Nat} {s : Int32} (h : x_ix n s = true) (hn : n < 2 ^ 31) : am_outb s n = false := by
  obtain ⟨j, hj, rfl⟩ := x_ix_i h
  exact am_inb hj hn
theorem x_in_ix {n : Nat} (hn : n < 2 ^ 31) (s : Int32) : x_in s 0 (nI n - 1) = x_ix n s := by
  unfold x_in x_ix
  rw [← Bool.decide_and]
  apply decide_eq_decide.mpr
  rw [Int32.le_iff_toInt_le, Int32.le_iff_toInt_le]
  have e : (nI n - 1).toInt = (n : Int) - 1 := by
    rcases Nat.eq_zero_or_pos n with rfl | h0
    · decide
    · rw [show (1 : Int32) = nI 1 from rfl, pk_sub h0, nI_toInt (by omega)]
      omega
  rw [e]
  simp only [show (0 : Int32).toInt = 0 from rfl]
  omega
theorem x_in_t {v lo hi : Int32} (h1 : ¬ v < lo) (h2 : ¬ hi < v) : x_in v lo hi = true := by
  unfold x_in
  rw [decide_eq_true (Int32.not_lt.mp h1), decide_eq_true (Int32.not_lt.mp h2)]
  rfl
theorem x_in_f1 {v lo hi : Int32} (h1 : v < lo) : x_in v lo hi = false := by
  unfold x_in
  rw [decide_eq_false (Int32.not_le.mpr h1)]
  rfl
theorem x_in_f2 {v lo hi : Int32} (h2 : hi < v) : x_in v lo hi = false := by
  unfold x_in
  rw [decide_eq_false (Int32.not_le.mpr h2), Bool.and_false]
theorem c103 (v lo hi : Int32) (h : am_H) : am_rd 103 [.int v, .int lo, .int hi] h (.int (am_bi (x_in v lo hi))) := by
  show am_wp _ (_, [_, _, _], _) _ _
  refine w_iload_n s103_0 rfl ?_
  refine w_iload_n s103_1 rfl ?_
  refine w_icmplt s103_2 rfl  (fun c2 => ?_) (fun c2 => ?_)
  · skip
    refine w_iconst (v := 0) s103_14 rfl ?_
    refine w_zret0 s103_15 rk103 ?_
    first | exact ⟨am_zz (x_in_t (by assumption) (by assumption)), rfl⟩ | exact ⟨am_zo (x_in_f1 (by assumption)), rfl⟩ | exact ⟨am_zo (x_in_f2 (by assumption)), rfl⟩
  · skip
    refine w_iload_n s103_5 rfl ?_
    refine w_iload_n s103_6 rfl ?_
    refine w_icmpgt s103_7 rfl  (fun c7 => ?_) (fun c7 => ?_)
    · skip
      refine w_iconst (v := 0) s103_14 rfl ?_
      refine w_zret0 s103_15 rk103 ?_
      first | exact ⟨am_zz (x_in_t (by assumption) (by assumption)), rfl⟩ | exact ⟨am_zo (x_in_f1 (by assumption)), rfl⟩ | exact ⟨am_zo (x_in_f2 (by assumption)), rfl⟩
    · skip
      refine w_iconst (v := 1) s103_10 rfl ?_
      refine w_goto s103_11 rfl ?_
      refine w_zret1 s103_15 rk103 ?_
      first | exact ⟨am_zz (x_in_t (by assumption) (by assumption)), rfl⟩ | exact ⟨am_zo (x_in_f1 (by assumption)), rfl⟩ | exact ⟨am_zo (x_in_f2 (by assumption)), rfl⟩
theorem c105 (v k : Int32) (h : am_H) : am_rd 105 [.int v, .int k] h (.int (am_bi (x_has v k))) := by
  show am_wp _ (_, [_, _], _) _ _
  refine w_iload_n s105_0 rfl ?_
  refine w_iload_n s105_1 rfl ?_
  refine w_ishr s105_2 rfl ?_
  refine w_iconst (v := 1) s105_3 rfl ?_
  refine w_iand s105_4 rfl ?_
  refine w_iconst (v := 1) s105_5 rfl ?_
  refine w_icmpne s105_6 rfl  (fun c6 => ?_) (fun c6 => ?_)
  · skip
    refine w_iconst (v := 0) s105_13 rfl ?_
    refine w_zret0 s105_14 rk105 ?_
    first | exact ⟨am_zz (decide_eq_true (by assumption)), rfl⟩ | exact ⟨am_zo (decide_eq_false (by assumption)), rfl⟩
  · skip
    refine w_iconst (v := 1) s105_9 rfl ?_
    refine w_goto s105_10 rfl ?_
    refine w_zret1 s105_14 rk105 ?_
    first | exact ⟨am_zz (decide_eq_true (by assumption)), rfl⟩ | exact ⟨am_zo (decide_eq_false (by assumption)), rfl⟩
theorem c107 {h : am_H} {cc : Nat → Nat} {aa : Nat → Nat → Int32} (hw : MW h cc aa) (hn : cc 3 ≤ 10) (s : Int32) : am_rd 107 [.ref 27, .int s] h (.int (am_bi (x_ix (cc 3) s))) := by
  show am_wp _ (_, [_, _], _) _ _
  refine w_iload_n s107_0 rfl ?_
  refine w_iconst (v := 0) s107_1 rfl ?_
  refine w_aload_n s107_2 rfl ?_
  refine w_getf s107_3 (hw 0 _ rfl) rfl ?_
  refine w_iconst (v := 1) s107_6 rfl ?_
  refine w_isub s107_7 rfl ?_
  refine w_callS3r s107_8 mc107_103 rfl rfl (c103 _ _ _ _) ?_
  refine w_zret s107_11 rk107 ?_
  exact ⟨by rw [x_in_ix (by omega)], rfl⟩
theorem c135 {h : am_H} {cc : Nat → Nat} {aa : Nat → Nat → Int32} (hw : MW h cc aa) (hn : cc 20 ≤ 40) (s : Int32) : am_rd 135 [.ref 27, .int s] h (.int (am_bi (x_ix (cc 20) s))) := by
  show am_wp _ (_, [_, _], _) _ _
  refine w_iload_n s135_0 rfl ?_
  refine w_iconst (v := 0) s135_1 rfl ?_
  refine w_aload_n s135_2 rfl ?_
  refine w_getf s135_3 (hw 0 _ rfl) rfl ?_
  refine w_iconst (v := 1) s135_6 rfl ?_
  refine w_isub s135_7 rfl ?_
  refine w_callS3r s135_8 mc135_103 rfl rfl (c103 _ _ _ _) ?_
  refine w_zret s135_11 rk135 ?_
  exact ⟨by rw [x_in_ix (by omega)], rfl⟩
theorem c148 {h : am_H} {cc : Nat → Nat} {aa : Nat → Nat → Int32} (hw : MW h cc aa) (hn : cc 28 ≤ 6) (s : Int32) : am_rd 148 [.ref 27, .int s] h (.int (am_bi (x_ix (cc 28) s))) := by
  show am_wp _ (_, [_, _], _) _ _
  refine w_iload_n s148_0 rfl ?_
  refine w_iconst (v := 0) s148_1 rfl ?_
  refine w_aload_n s148_2 rfl ?_
  refine w_getf s148_3 (hw 0 _ rfl) rfl ?_
  refine w_iconst (v := 1) s148_6 rfl ?_
  refine w_isub s148_7 rfl ?_
  refine w_callS3r s148_8 mc148_103 rfl rfl (c103 _ _ _ _) ?_
  refine w_zret s148_11 rk148 ?_
  exact ⟨by rw [x_in_ix (by omega)], rfl⟩
theorem c113 (s : Int32) (h : am_H) : am_rd 113 [.int s] h (.int (am_bi (x_in s 0 500))) := by
  show am_wp _ (_, [_], _) _ _
  refine w_iload_n s113_0 rfl ?_
  refine w_iconst (v := 0) s113_1 rfl ?_
  refine w_sipush (v := 500) s113_2 rfl ?_
  refine w_callS3r s113_5 mc113_103 rfl rfl (c103 _ _ _ _) ?_
  refine w_zret s113_8 rk113 ?_
  exact ⟨rfl, rfl⟩
theorem c117 (s : Int32) (h : am_H) : am_rd 117 [.int s] h (.int (am_bi (x_in s 0 3))) := by
  show am_wp _ (_, [_], _) _ _
  refine w_iload_n s117_0 rfl ?_
  refine w_iconst (v := 0) s117_1 rfl ?_
  refine w_iconst (v := 3) s117_2 rfl ?_
  refine w_callS3r s117_3 mc117_103 rfl rfl (c103 _ _ _ _) ?_
  refine w_zret s117_6 rk117 ?_
  exact ⟨rfl, rfl⟩
theorem c160 (s : Int32) (h : am_H) : am_rd 160 [.int s] h (.int (am_bi (x_in s 0 9))) := by
  show am_wp _ (_, [_], _) _ _
  refine w_iload_n s160_0 rfl ?_
  refine w_iconst (v := 0) s160_1 rfl ?_
  refine w_bipush (v := 9) s160_2 rfl ?_
  refine w_callS3r s160_4 mc160_103 rfl rfl (c103 _ _ _ _) ?_
  refine w_zret s160_7 rk160 ?_
  exact ⟨rfl, rfl⟩
theorem c123 (s : Int32) (h : am_H) : am_rd 123 [.int s] h (.int (am_bi (x_in s 48 57))) := by
  show am_wp _ (_, [_], _) _ _
  refine w_iload_n s123_0 rfl ?_
  refine w_bipush (v := 48) s123_1 rfl ?_
  refine w_bipush (v := 57) s123_3 rfl ?_
  refine w_callS3r s123_5 mc123_103 rfl rfl (c103 _ _ _ _) ?_
  refine w_zret s123_8 rk123 ?_
  exact ⟨rfl, rfl⟩
def x_small (c : Int32) : Int32 := if x_in c 65 90 = true then c + 32 else c
theorem c124 (s : Int32) (h : am_H) : am_rd 124 [.int s] h (.int (x_small s)) := by
  show am_wp _ (_, [_], _) _ _
  refine w_iload_n s124_0 rfl ?_
  refine w_bipush (v := 65) s124_1 rfl ?_
  refine w_bipush (v := 90) s124_3 rfl ?_
  refine w_callS3r s124_5 mc124_103 rfl rfl (c103 _ _ _ _) ?_
  refine w_ifeqB s124_8 rfl  (fun c8 => ?_) (fun c8 => ?_)
  · skip
    refine w_iload_n s124_18 rfl ?_
    refine w_iret s124_19 rk124 ?_
    first | exact ⟨by simp [x_small, *], rfl⟩
  · skip
    refine w_iload_n s124_11 rfl ?_
    refine w_bipush (v := 32) s124_12 rfl ?_
    refine w_iadd s124_14 rfl ?_
    refine w_goto s124_15 rfl ?_
    refine w_iret s124_19 rk124 ?_
    first | exact ⟨by simp [x_small, *], rfl⟩
def x_sign (c : Int32) : Bool := x_in c 48 57 || x_in (x_small c) 97 122
theorem c125 (s : Int32) (h : am_H) : am_rd 125 [.int s] h (.int (am_bi (x_sign s))) := by
  show am_wp _ (_, [_], _) _ _
  refine w_iload_n s125_0 rfl ?_
  refine w_callS1r s125_1 mc125_123 rfl rfl (c123 _ _) ?_
  refine w_ifneB s125_4 rfl  (fun c4 => ?_) (fun c4 => ?_)
  · skip
    refine w_iconst (v := 1) s125_21 rfl ?_
    refine w_goto s125_22 rfl ?_
    refine w_zret1 s125_26 rk125 ?_
    first | exact ⟨am_zz (by simp [x_sign, *]), rfl⟩ | exact ⟨am_zo (by simp [x_sign, *]), rfl⟩
  · skip
    refine w_iload_n s125_7 rfl ?_
    refine w_callS1r s125_8 mc125_124 rfl rfl (c124 _ _) ?_
    refine w_bipush (v := 97) s125_11 rfl ?_
    refine w_bipush (v := 122) s125_13 rfl ?_
    refine w_callS3r s125_15 mc125_103 rfl rfl (c103 _ _ _ _) ?_
    refine w_ifeqB s125_18 rfl  (fun c18 => ?_) (fun c18 => ?_)
    · skip
      refine w_iconst (v := 0) s125_25 rfl ?_
      refine w_zret0 s125_26 rk125 ?_
      first | exact ⟨am_zz (by simp [x_sign, *]), rfl⟩ | exact ⟨am_zo (by simp [x_sign, *]), rfl⟩
    · skip
      refine w_iconst (v := 1) s125_21 rfl ?_
      refine w_goto s125_22 rfl ?_
      refine w_zret1 s125_26 rk125 ?_
      first | exact ⟨am_zz (by simp [x_sign, *]), rfl⟩ | exact ⟨am_zo (by simp [x_sign, *]), rfl⟩
def x_fits (i k : Int32) : Bool := decide (k = 0) || decide (k = i) || (decide (k = 1) && decide (i = 2)) || (decide (k = 4) && decide (i = 5))
theorem c136 (i k : Int32) (h : am_H) : am_rd 136 [.int i, .int k] h (.int (am_bi (x_fits i k))) := by
  show am_wp _ (_, [_, _], _) _ _
  refine w_iload_n s136_0 rfl ?_
  refine w_ifeq s136_1 rfl  (fun c1 => ?_) (fun c1 => ?_)
  · skip
    refine w_iconst (v := 1) s136_29 rfl ?_
    refine w_goto s136_30 rfl ?_
    refine w_zret1 s136_34 rk136 ?_
    first | exact ⟨am_zz (by simp [x_fits, *]), rfl⟩ | exact ⟨am_zo (by simp [x_fits, *]), rfl⟩
  · skip
    refine w_iload_n s136_4 rfl ?_
    refine w_iload_n s136_5 rfl ?_
    refine w_icmpeq s136_6 rfl  (fun c6 => ?_) (fun c6 => ?_)
    · skip
      refine w_iconst (v := 1) s136_29 rfl ?_
      refine w_goto s136_30 rfl ?_
      refine w_zret1 s136_34 rk136 ?_
      first | exact ⟨am_zz (by simp [x_fits, *]), rfl⟩ | exact ⟨am_zo (by simp [x_fits, *]), rfl⟩
    · skip
      refine w_iload_n s136_9 rfl ?_
      refine w_iconst (v := 1) s136_10 rfl ?_
      refine w_icmpne s136_11 rfl  (fun c11 => ?_) (fun c11 => ?_)
      · skip
        refine w_iload_n s136_19 rfl ?_
        refine w_iconst (v := 4) s136_20 rfl ?_
        refine w_icmpne s136_21 rfl  (fun c21 => ?_) (fun c21 => ?_)
        · skip
          refine w_iconst (v := 0) s136_33 rfl ?_
          refine w_zret0 s136_34 rk136 ?_
          first | exact ⟨am_zz (by simp [x_fits, *]), rfl⟩ | exact ⟨am_zo (by simp [x_fits, *]), rfl⟩
        · skip
          refine w_iload_n s136_24 rfl ?_
          refine w_iconst (v := 5) s136_25 rfl ?_
          refine w_icmpne s136_26 rfl  (fun c26 => ?_) (fun c26 => ?_)
          · skip
            refine w_iconst (v := 0) s136_33 rfl ?_
            refine w_zret0 s136_34 rk136 ?_
            first | exact ⟨am_zz (by simp [x_fits, *]), rfl⟩ | exact ⟨am_zo (by simp [x_fits, *]), rfl⟩
          · skip
            refine w_iconst (v := 1) s136_29 rfl ?_
            refine w_goto s136_30 rfl ?_
            refine w_zret1 s136_34 rk136 ?_
            first | exact ⟨am_zz (by simp [x_fits, *]), rfl⟩ | exact ⟨am_zo (by simp [x_fits, *]), rfl⟩
      · skip
        refine w_iload_n s136_14 rfl ?_
        refine w_iconst (v := 2) s136_15 rfl ?_
        refine w_icmpeq s136_16 rfl  (fun c16 => ?_) (fun c16 => ?_)
        · skip
          refine w_iconst (v := 1) s136_29 rfl ?_
          refine w_goto s136_30 rfl ?_
          refine w_zret1 s136_34 rk136 ?_
          first | exact ⟨am_zz (by simp [x_fits, *]), rfl⟩ | exact ⟨am_zo (by simp [x_fits, *]), rfl⟩
        · skip
          refine w_iload_n s136_19 rfl ?_
          refine w_iconst (v := 4) s136_20 rfl ?_
          refine w_icmpne s136_21 rfl  (fun c21 => ?_) (fun c21 => ?_)
          · skip
            refine w_iconst (v := 0) s136_33 rfl ?_
            refine w_zret0 s136_34 rk136 ?_
            first | exact ⟨am_zz (by simp [x_fits, *]), rfl⟩ | exact ⟨am_zo (by simp [x_fits, *]), rfl⟩
          · skip
            refine w_iload_n s136_24 rfl ?_
            refine w_iconst (v := 5) s136_25 rfl ?_
            refine w_icmpne s136_26 rfl  (fun c26 => ?_) (fun c26 => ?_)
            · skip
              refine w_iconst (v := 0) s136_33 rfl ?_
              refine w_zret0 s136_34 rk136 ?_
              first | exact ⟨am_zz (by simp [x_fits, *]), rfl⟩ | exact ⟨am_zo (by simp [x_fits, *]), rfl⟩
            · skip
              refine w_iconst (v := 1) s136_29 rfl ?_
              refine w_goto s136_30 rfl ?_
              refine w_zret1 s136_34 rk136 ?_
              first | exact ⟨am_zz (by simp [x_fits, *]), rfl⟩ | exact ⟨am_zo (by simp [x_fits, *]), rfl⟩
def x_ad (a b : Int32) : Int32 := if b < a then a - b else b - a
def x_walks (aa : Nat → Nat → Int32) (a b : Int32) : Int32 := x_ad (aa 4 a.toNatClampNeg) (aa 4 b.toNatClampNeg) + x_ad (aa 5 a.toNatClampNeg) (aa 5 b.toNatClampNeg)
theorem c109 {h : am_H} {cc : Nat → Nat} {aa : Nat → Nat → Int32} (hw : MW h cc aa) (a b : Int32) (ha : am_outb a 10 = false) (hb : am_outb b 10 = false) : am_rd 109 [.ref 27, .int a, .int b] h (.int (x_walks aa a b)) := by
  show am_wp _ (_, [_, _, _, _, _], _) _ _
  refine w_aload_n s109_0 rfl ?_
  refine w_getf s109_1 (hw 0 _ rfl) rfl ?_
  refine w_iload_n s109_4 rfl ?_
  refine w_ialdI s109_5 (hw 2 _ rfl) (by assumption) ?_
  refine w_aload_n s109_6 rfl ?_
  refine w_getf s109_7 (hw 0 _ rfl) rfl ?_
  refine w_iload_n s109_10 rfl ?_
  refine w_ialdI s109_11 (hw 2 _ rfl) (by assumption) ?_
  refine w_icmple s109_12 rfl  (fun c12 => ?_) (fun c12 => ?_)
  · skip
    refine w_aload_n s109_31 rfl ?_
    refine w_getf s109_32 (hw 0 _ rfl) rfl ?_
    refine w_iload_n s109_35 rfl ?_
    refine w_ialdI s109_36 (hw 2 _ rfl) (by assumption) ?_
    refine w_aload_n s109_37 rfl ?_
    refine w_getf s109_38 (hw 0 _ rfl) rfl ?_
    refine w_iload_n s109_41 rfl ?_
    refine w_ialdI s109_42 (hw 2 _ rfl) (by assumption) ?_
    refine w_isub s109_43 rfl ?_
    refine w_istore_n s109_44 rfl ?_
    show am_wp _ (_, [_, _, _, _, _], _) _ _
    refine w_aload_n s109_45 rfl ?_
    refine w_getf s109_46 (hw 0 _ rfl) rfl ?_
    refine w_iload_n s109_49 rfl ?_
    refine w_ialdI s109_50 (hw 3 _ rfl) (by assumption) ?_
    refine w_aload_n s109_51 rfl ?_
    refine w_getf s109_52 (hw 0 _ rfl) rfl ?_
    refine w_iload_n s109_55 rfl ?_
    refine w_ialdI s109_56 (hw 3 _ rfl) (by assumption) ?_
    refine w_icmple s109_57 rfl  (fun c57 => ?_) (fun c57 => ?_)
    · skip
      refine w_aload_n s109_76 rfl ?_
      refine w_getf s109_77 (hw 0 _ rfl) rfl ?_
      refine w_iload_n s109_80 rfl ?_
      refine w_ialdI s109_81 (hw 3 _ rfl) (by assumption) ?_
      refine w_aload_n s109_82 rfl ?_
      refine w_getf s109_83 (hw 0 _ rfl) rfl ?_
      refine w_iload_n s109_86 rfl ?_
      refine w_ialdI s109_87 (hw 3 _ rfl) (by assumption) ?_
      refine w_isub s109_88 rfl ?_
      refine w_istore s109_89 rfl ?_
      show am_wp _ (_, [_, _, _, _, _], _) _ _
      refine w_iload_n s109_91 rfl ?_
      refine w_iload s109_92 rfl ?_
      refine w_iadd s109_94 rfl ?_
      refine w_iret s109_95 rk109 ?_
      exact ⟨by simp [x_walks, x_ad, *], rfl⟩
    · skip
      refine w_aload_n s109_60 rfl ?_
      refine w_getf s109_61 (hw 0 _ rfl) rfl ?_
      refine w_iload_n s109_64 rfl ?_
      refine w_ialdI s109_65 (hw 3 _ rfl) (by assumption) ?_
      refine w_aload_n s109_66 rfl ?_
      refine w_getf s109_67 (hw 0 _ rfl) rfl ?_
      refine w_iload_n s109_70 rfl ?_
      refine w_ialdI s109_71 (hw 3 _ rfl) (by assumption) ?_
      refine w_isub s109_72 rfl ?_
      refine w_goto s109_73 rfl ?_
      refine w_istore s109_89 rfl ?_
      show am_wp _ (_, [_, _, _, _, _], _) _ _
      refine w_iload_n s109_91 rfl ?_
      refine w_iload s109_92 rfl ?_
      refine w_iadd s109_94 rfl ?_
      refine w_iret s109_95 rk109 ?_
      exact ⟨by simp [x_walks, x_ad, *], rfl⟩
  · skip
    refine w_aload_n s109_15 rfl ?_
    refine w_getf s109_16 (hw 0 _ rfl) rfl ?_
    refine w_iload_n s109_19 rfl ?_
    refine w_ialdI s109_20 (hw 2 _ rfl) (by assumption) ?_
    refine w_aload_n s109_21 rfl ?_
    refine w_getf s109_22 (hw 0 _ rfl) rfl ?_
    refine w_iload_n s109_25 rfl ?_
    refine w_ialdI s109_26 (hw 2 _ rfl) (by assumption) ?_
    refine w_isub s109_27 rfl ?_
    refine w_goto s109_28 rfl ?_
    refine w_istore_n s109_44 rfl ?_
    show am_wp _ (_, [_, _, _, _, _], _) _ _
    refine w_aload_n s109_45 rfl ?_
    refine w_getf s109_46 (hw 0 _ rfl) rfl ?_
    refine w_iload_n s109_49 rfl ?_
    refine w_ialdI s109_50 (hw 3 _ rfl) (by assumption) ?_
    refine w_aload_n s109_51 rfl ?_
    refine w_getf s109_52 (hw 0 _ rfl) rfl ?_
    refine w_iload_n s109_55 rfl ?_
    refine w_ialdI s109_56 (hw 3 _ rfl) (by assumption) ?_
    refine w_icmple s109_57 rfl  (fun c57 => ?_) (fun c57 => ?_)
    · skip
      refine w_aload_n s109_76 rfl ?_
      refine w_getf s109_77 (hw 0 _ rfl) rfl ?_
      refine w_iload_n s109_80 rfl ?_
      refine w_ialdI s109_81 (hw 3 _ rfl) (by assumption) ?_
      refine w_aload_n s109_82 rfl ?_
      refine w_getf s109_83 (hw 0 _ rfl) rfl ?_
      refine w_iload_n s109_86 rfl ?_
      refine w_ialdI s109_87 (hw 3 _ rfl) (by assumption) ?_
      refine w_isub s109_88 rfl ?_
      refine w_istore s109_89 rfl ?_
      show am_wp _ (_, [_, _, _, _, _], _) _ _
      refine w_iload_n s109_91 rfl ?_
      refine w_iload s109_92 rfl ?_
      refine w_iadd s109_94 rfl ?_
      refine w_iret s109_95 rk109 ?_
      exact ⟨by simp [x_walks, x_ad, *], rfl⟩
    · skip
      refine w_aload_n s109_60 rfl ?_
      refine w_getf s109_61 (hw 0 _ rfl) rfl ?_
      refine w_iload_n s109_64 rfl ?_
      refine w_ialdI s109_65 (hw 3 _ rfl) (by assumption) ?_
      refine w_aload_n s109_66 rfl ?_
      refine w_getf s109_67 (hw 0 _ rfl) rfl ?_
      refine w_iload_n s109_70 rfl ?_
      refine w_ialdI s109_71 (hw 3 _ rfl) (by assumption) ?_
      refine w_isub s109_72 rfl ?_
      refine w_goto s109_73 rfl ?_
      refine w_istore s109_89 rfl ?_
      show am_wp _ (_, [_, _, _, _, _], _) _ _
      refine w_iload_n s109_91 rfl ?_
      refine w_iload s109_92 rfl ?_
      refine w_iadd s109_94 rfl ?_
      refine w_iret s109_95 rk109 ?_
      exact ⟨by simp [x_walks, x_ad, *], rfl⟩
