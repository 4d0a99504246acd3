/-! the class's tests and small sums -/
theorem x_ix_t {n : Nat} {s : Int32} (hn : n < 2 ^ 31) (h1 : ¬ s < 0) (h2 : ¬ nI n ≤ s) : x_ix n s = true := by
  apply decide_eq_true
  rw [Int32.lt_iff_toInt_lt] at h1
  rw [Int32.le_iff_toInt_le, nI_toInt hn] at h2
  simp only [show (0 : Int32).toInt = 0 from rfl] at h1
  omega
theorem x_ix_f1 {n : Nat} {s : Int32} (h1 : s < 0) : x_ix n s = false := by
  apply decide_eq_false
  rw [Int32.lt_iff_toInt_lt] at h1
  simp only [show (0 : Int32).toInt = 0 from rfl] at h1
  omega
theorem x_ix_f2 {n : Nat} {s : Int32} (hn : n < 2 ^ 31) (h2 : nI n ≤ s) : x_ix n s = false := by
  apply decide_eq_false
  rw [Int32.le_iff_toInt_le, nI_toInt hn] at h2
  omega
theorem x_one_shl {n : Nat} (hn : n ≤ 10) : (1 : Int32) <<< (nI n &&& 31) = nI (2 ^ n) := by
  have : ∀ n, n < 11 → (1 : Int32) <<< (nI n &&& 31) = nI (2 ^ n) := by decide +kernel
  exact this n (by omega)
theorem x_arq_ix {n : Nat} {s : Int32} : x_arq n s = x_ix (2 ^ n) s := rfl
theorem x_abs {a b : Nat} (ha : a < 2 ^ 30) (hb : b < 2 ^ 30) : (if 0 ≤ nI a - nI b then nI a - nI b else 0 - (nI a - nI b)) = x_ad (nI a) (nI b) := by
  unfold x_ad
  by_cases c : a ≤ b
  · rw [if_pos ((nI_leI (by omega) (by omega)).mpr c)]
    by_cases e : a = b
    · subst e
      rw [if_pos (by rw [Int32.sub_self]; decide)]
    · rw [if_neg (fun d => absurd (pk_sneg hb (show a < b by omega)) (Int32.not_lt.mpr d)), Int32.zero_sub, Int32.neg_sub]
  · rw [if_neg (fun d => c ((nI_leI (by omega) (by omega)).mp d)), pk_sub (by omega), if_pos (nI_pos' (by omega))]
theorem x_walks_n {aa : Nat → Nat → Int32} {i j : Nat} (hi : i < 2 ^ 31) (hj : j < 2 ^ 31) : x_walks aa (nI i) (nI j) = x_ad (aa 4 i) (aa 4 j) + x_ad (aa 5 i) (aa 5 j) := by
  unfold x_walks tn
  rw [nI_clamp hi, nI_clamp hj]
theorem c77 (v lo hi : Int32) (h : am_H) : am_rd 77 [.int v, .int lo, .int hi] h (.int (am_bi (x_in v lo hi))) := by
  show am_wp _ (_, [_, _, _], _) _ _
  refine w_iload_n s77_0 rfl ?_
  refine w_iload_n s77_1 rfl ?_
  refine w_icmplt s77_2 rfl  (fun c2 => ?_) (fun c2 => ?_)
  · skip
    refine w_iconst (v := 0) s77_14 rfl ?_
    refine w_zret0 s77_15 rk77 ?_
    first | exact ⟨am_zz (x_in_t (by assumption) (by assumption)), rfl⟩ | exact ⟨am_zo (x_in_f1 (by assumption)), rfl⟩ | exact ⟨am_zo (x_in_f2 (by assumption)), rfl⟩
  · skip
    refine w_iload_n s77_5 rfl ?_
    refine w_iload_n s77_6 rfl ?_
    refine w_icmpgt s77_7 rfl  (fun c7 => ?_) (fun c7 => ?_)
    · skip
      refine w_iconst (v := 0) s77_14 rfl ?_
      refine w_zret0 s77_15 rk77 ?_
      first | exact ⟨am_zz (x_in_t (by assumption) (by assumption)), rfl⟩ | exact ⟨am_zo (x_in_f1 (by assumption)), rfl⟩ | exact ⟨am_zo (x_in_f2 (by assumption)), rfl⟩
    · skip
      refine w_iconst (v := 1) s77_10 rfl ?_
      refine w_goto s77_11 rfl ?_
      refine w_zret1 s77_15 rk77 ?_
      first | exact ⟨am_zz (x_in_t (by assumption) (by assumption)), rfl⟩ | exact ⟨am_zo (x_in_f1 (by assumption)), rfl⟩ | exact ⟨am_zo (x_in_f2 (by assumption)), rfl⟩
theorem c78 (s : Int32) (h : am_H) : am_rd 78 [.int s] h (.int (am_bi (x_in s 0 500))) := by
  show am_wp _ (_, [_], _) _ _
  refine w_iload_n s78_0 rfl ?_
  refine w_iconst (v := 0) s78_1 rfl ?_
  refine w_sipush (v := 500) s78_2 rfl ?_
  refine w_callS3r s78_5 mc78_77 rfl rfl (c77 _ _ _ _) ?_
  refine w_zret s78_8 rk78 ?_
  exact ⟨rfl, rfl⟩
theorem c79 (s : Int32) (h : am_H) : am_rd 79 [.int s] h (.int (am_bi (x_in s 0 1439))) := by
  show am_wp _ (_, [_], _) _ _
  refine w_iload_n s79_0 rfl ?_
  refine w_iconst (v := 0) s79_1 rfl ?_
  refine w_sipush (v := 1439) s79_2 rfl ?_
  refine w_callS3r s79_5 mc79_77 rfl rfl (c77 _ _ _ _) ?_
  refine w_zret s79_8 rk79 ?_
  exact ⟨rfl, rfl⟩
theorem c80 (s : Int32) (h : am_H) : am_rd 80 [.int s] h (.int (am_bi (x_in s 0 3))) := by
  show am_wp _ (_, [_], _) _ _
  refine w_iload_n s80_0 rfl ?_
  refine w_iconst (v := 0) s80_1 rfl ?_
  refine w_iconst (v := 3) s80_2 rfl ?_
  refine w_callS3r s80_3 mc80_77 rfl rfl (c77 _ _ _ _) ?_
  refine w_zret s80_6 rk80 ?_
  exact ⟨rfl, rfl⟩
theorem c81 (s : Int32) (h : am_H) : am_rd 81 [.int s] h (.int (am_bi (x_in s 0 5))) := by
  show am_wp _ (_, [_], _) _ _
  refine w_iload_n s81_0 rfl ?_
  refine w_iconst (v := 0) s81_1 rfl ?_
  refine w_iconst (v := 5) s81_2 rfl ?_
  refine w_callS3r s81_3 mc81_77 rfl rfl (c77 _ _ _ _) ?_
  refine w_zret s81_6 rk81 ?_
  exact ⟨rfl, rfl⟩
theorem c82 (s : Int32) (h : am_H) : am_rd 82 [.int s] h (.int (am_bi (x_in s 0 9))) := by
  show am_wp _ (_, [_], _) _ _
  refine w_iload_n s82_0 rfl ?_
  refine w_iconst (v := 0) s82_1 rfl ?_
  refine w_bipush (v := 9) s82_2 rfl ?_
  refine w_callS3r s82_4 mc82_77 rfl rfl (c77 _ _ _ _) ?_
  refine w_zret s82_7 rk82 ?_
  exact ⟨rfl, rfl⟩
theorem c83 {h0 h : am_H} {a b : Nat} {cc : Nat → Nat} {aa : Nat → Nat → Int32} {P : x_P} {D : x_D} (hx : XL h0 a b h cc aa P D) (iv : IV cc aa) (s : Int32) : am_rd 83 [.ref 3, .int s] h (.int (am_bi (x_ix (cc 3) s))) := by
  have n0 := iv.n0
  have n2 := iv.n2
  have n3 := iv.n3
  have n7 := iv.n7
  have n8 := iv.n8
  have n16 := iv.n16
  have n20 := iv.n20
  have n28 := iv.n28
  have n31 := iv.n31
  have n38 := iv.n38
  have n45 := iv.n45
  show am_wp _ (_, [_, _], _) _ _
  refine w_iload_n s83_0 rfl ?_
  refine w_iflt s83_1 rfl  (fun c1 => ?_) (fun c1 => ?_)
  · skip
    refine w_iconst (v := 0) s83_19 rfl ?_
    refine w_zret0 s83_20 rk83 ?_
    first | exact ⟨am_zz (x_ix_t (by omega) (by assumption) (by assumption)), rfl⟩ | exact ⟨am_zo (x_ix_f1 (by assumption)), rfl⟩ | exact ⟨am_zo (x_ix_f2 (by omega) (by assumption)), rfl⟩
  · skip
    refine w_iload_n s83_4 rfl ?_
    refine w_aload_n s83_5 rfl ?_
    refine w_getf s83_6 hx.o rfl ?_
    refine w_callV0r s83_9 (hx.l 0 (by decide)) ow181 mc83_181 rfl rfl (hx.size 0 (by decide)) ?_
    refine w_icmpge s83_12 rfl  (fun c12 => ?_) (fun c12 => ?_)
    · skip
      refine w_iconst (v := 0) s83_19 rfl ?_
      refine w_zret0 s83_20 rk83 ?_
      first | exact ⟨am_zz (x_ix_t (by omega) (by assumption) (by assumption)), rfl⟩ | exact ⟨am_zo (x_ix_f1 (by assumption)), rfl⟩ | exact ⟨am_zo (x_ix_f2 (by omega) (by assumption)), rfl⟩
    · skip
      refine w_iconst (v := 1) s83_15 rfl ?_
      refine w_goto s83_16 rfl ?_
      refine w_zret1 s83_20 rk83 ?_
      first | exact ⟨am_zz (x_ix_t (by omega) (by assumption) (by assumption)), rfl⟩ | exact ⟨am_zo (x_ix_f1 (by assumption)), rfl⟩ | exact ⟨am_zo (x_ix_f2 (by omega) (by assumption)), rfl⟩
theorem c84 {h0 h : am_H} {a b : Nat} {cc : Nat → Nat} {aa : Nat → Nat → Int32} {P : x_P} {D : x_D} (hx : XL h0 a b h cc aa P D) (iv : IV cc aa) (s : Int32) : am_rd 84 [.ref 3, .int s] h (.int (am_bi (x_ix (cc 20) s))) := by
  have n0 := iv.n0
  have n2 := iv.n2
  have n3 := iv.n3
  have n7 := iv.n7
  have n8 := iv.n8
  have n16 := iv.n16
  have n20 := iv.n20
  have n28 := iv.n28
  have n31 := iv.n31
  have n38 := iv.n38
  have n45 := iv.n45
  show am_wp _ (_, [_, _], _) _ _
  refine w_iload_n s84_0 rfl ?_
  refine w_iflt s84_1 rfl  (fun c1 => ?_) (fun c1 => ?_)
  · skip
    refine w_iconst (v := 0) s84_19 rfl ?_
    refine w_zret0 s84_20 rk84 ?_
    first | exact ⟨am_zz (x_ix_t (by omega) (by assumption) (by assumption)), rfl⟩ | exact ⟨am_zo (x_ix_f1 (by assumption)), rfl⟩ | exact ⟨am_zo (x_ix_f2 (by omega) (by assumption)), rfl⟩
  · skip
    refine w_iload_n s84_4 rfl ?_
    refine w_aload_n s84_5 rfl ?_
    refine w_getf s84_6 hx.o rfl ?_
    refine w_callV0r s84_9 (hx.l 2 (by decide)) ow181 mc84_181 rfl rfl (hx.size 2 (by decide)) ?_
    refine w_icmpge s84_12 rfl  (fun c12 => ?_) (fun c12 => ?_)
    · skip
      refine w_iconst (v := 0) s84_19 rfl ?_
      refine w_zret0 s84_20 rk84 ?_
      first | exact ⟨am_zz (x_ix_t (by omega) (by assumption) (by assumption)), rfl⟩ | exact ⟨am_zo (x_ix_f1 (by assumption)), rfl⟩ | exact ⟨am_zo (x_ix_f2 (by omega) (by assumption)), rfl⟩
    · skip
      refine w_iconst (v := 1) s84_15 rfl ?_
      refine w_goto s84_16 rfl ?_
      refine w_zret1 s84_20 rk84 ?_
      first | exact ⟨am_zz (x_ix_t (by omega) (by assumption) (by assumption)), rfl⟩ | exact ⟨am_zo (x_ix_f1 (by assumption)), rfl⟩ | exact ⟨am_zo (x_ix_f2 (by omega) (by assumption)), rfl⟩
theorem c85 {h0 h : am_H} {a b : Nat} {cc : Nat → Nat} {aa : Nat → Nat → Int32} {P : x_P} {D : x_D} (hx : XL h0 a b h cc aa P D) (iv : IV cc aa) (s : Int32) : am_rd 85 [.ref 3, .int s] h (.int (am_bi (x_ix (cc 28) s))) := by
  have n0 := iv.n0
  have n2 := iv.n2
  have n3 := iv.n3
  have n7 := iv.n7
  have n8 := iv.n8
  have n16 := iv.n16
  have n20 := iv.n20
  have n28 := iv.n28
  have n31 := iv.n31
  have n38 := iv.n38
  have n45 := iv.n45
  show am_wp _ (_, [_, _], _) _ _
  refine w_iload_n s85_0 rfl ?_
  refine w_iflt s85_1 rfl  (fun c1 => ?_) (fun c1 => ?_)
  · skip
    refine w_iconst (v := 0) s85_19 rfl ?_
    refine w_zret0 s85_20 rk85 ?_
    first | exact ⟨am_zz (x_ix_t (by omega) (by assumption) (by assumption)), rfl⟩ | exact ⟨am_zo (x_ix_f1 (by assumption)), rfl⟩ | exact ⟨am_zo (x_ix_f2 (by omega) (by assumption)), rfl⟩
  · skip
    refine w_iload_n s85_4 rfl ?_
    refine w_aload_n s85_5 rfl ?_
    refine w_getf s85_6 hx.o rfl ?_
    refine w_callV0r s85_9 (hx.l 3 (by decide)) ow181 mc85_181 rfl rfl (hx.size 3 (by decide)) ?_
    refine w_icmpge s85_12 rfl  (fun c12 => ?_) (fun c12 => ?_)
    · skip
      refine w_iconst (v := 0) s85_19 rfl ?_
      refine w_zret0 s85_20 rk85 ?_
      first | exact ⟨am_zz (x_ix_t (by omega) (by assumption) (by assumption)), rfl⟩ | exact ⟨am_zo (x_ix_f1 (by assumption)), rfl⟩ | exact ⟨am_zo (x_ix_f2 (by omega) (by assumption)), rfl⟩
    · skip
      refine w_iconst (v := 1) s85_15 rfl ?_
      refine w_goto s85_16 rfl ?_
      refine w_zret1 s85_20 rk85 ?_
      first | exact ⟨am_zz (x_ix_t (by omega) (by assumption) (by assumption)), rfl⟩ | exact ⟨am_zo (x_ix_f1 (by assumption)), rfl⟩ | exact ⟨am_zo (x_ix_f2 (by omega) (by assumption)), rfl⟩
theorem c86 {h0 h : am_H} {a b : Nat} {cc : Nat → Nat} {aa : Nat → Nat → Int32} {P : x_P} {D : x_D} (hx : XL h0 a b h cc aa P D) (iv : IV cc aa) (s : Int32) : am_rd 86 [.ref 3, .int s] h (.int (am_bi (x_arq (cc 3) s))) := by
  have n0 := iv.n0
  have n2 := iv.n2
  have n3 := iv.n3
  have n7 := iv.n7
  have n8 := iv.n8
  have n16 := iv.n16
  have n20 := iv.n20
  have n28 := iv.n28
  have n31 := iv.n31
  have n38 := iv.n38
  have n45 := iv.n45
  have h10 := Nat.pow_le_pow_right (n := 2) (by decide) n3
  show am_wp _ (_, [_, _], _) _ _
  refine w_iload_n s86_0 rfl ?_
  refine w_iflt s86_1 rfl  (fun c1 => ?_) (fun c1 => ?_)
  · skip
    refine w_iconst (v := 0) s86_21 rfl ?_
    refine w_zret0 s86_22 rk86 ?_
    rw [x_arq_ix]
    first | exact ⟨am_zz (x_ix_t (by omega) (by assumption) (by assumption)), rfl⟩ | exact ⟨am_zo (x_ix_f1 (by assumption)), rfl⟩ | exact ⟨am_zo (x_ix_f2 (by omega) (by assumption)), rfl⟩
  · skip
    refine w_iload_n s86_4 rfl ?_
    refine w_iconst (v := 1) s86_5 rfl ?_
    refine w_aload_n s86_6 rfl ?_
    refine w_getf s86_7 hx.o rfl ?_
    refine w_callV0r s86_10 (hx.l 0 (by decide)) ow181 mc86_181 rfl rfl (hx.size 0 (by decide)) ?_
    refine w_ishl s86_13 (x_one_shl n3) ?_
    refine w_icmpge s86_14 rfl  (fun c14 => ?_) (fun c14 => ?_)
    · skip
      refine w_iconst (v := 0) s86_21 rfl ?_
      refine w_zret0 s86_22 rk86 ?_
      rw [x_arq_ix]
      first | exact ⟨am_zz (x_ix_t (by omega) (by assumption) (by assumption)), rfl⟩ | exact ⟨am_zo (x_ix_f1 (by assumption)), rfl⟩ | exact ⟨am_zo (x_ix_f2 (by omega) (by assumption)), rfl⟩
    · skip
      refine w_iconst (v := 1) s86_17 rfl ?_
      refine w_goto s86_18 rfl ?_
      refine w_zret1 s86_22 rk86 ?_
      rw [x_arq_ix]
      first | exact ⟨am_zz (x_ix_t (by omega) (by assumption) (by assumption)), rfl⟩ | exact ⟨am_zo (x_ix_f1 (by assumption)), rfl⟩ | exact ⟨am_zo (x_ix_f2 (by omega) (by assumption)), rfl⟩
theorem c87 (i k : Int32) (hk : ¬ k = 0) (h : am_H) : am_rd 87 [.int i, .int k] h (.int (am_bi (x_fits i k))) := by
  show am_wp _ (_, [_, _], _) _ _
  refine w_iload_n s87_0 rfl ?_
  refine w_iload_n s87_1 rfl ?_
  refine w_icmpeq s87_2 rfl  (fun c2 => ?_) (fun c2 => ?_)
  · skip
    refine w_iconst (v := 1) s87_25 rfl ?_
    refine w_goto s87_26 rfl ?_
    refine w_zret1 s87_30 rk87 ?_
    first | exact ⟨am_zz (by simp_all [x_fits]), rfl⟩ | exact ⟨am_zo (by simp_all [x_fits]), rfl⟩
  · skip
    replace c2 : ¬ k = i := fun e => c2 e.symm
    refine w_iload_n s87_5 rfl ?_
    refine w_iconst (v := 2) s87_6 rfl ?_
    refine w_icmpne s87_7 rfl  (fun c7 => ?_) (fun c7 => ?_)
    · skip
      refine w_iload_n s87_15 rfl ?_
      refine w_iconst (v := 5) s87_16 rfl ?_
      refine w_icmpne s87_17 rfl  (fun c17 => ?_) (fun c17 => ?_)
      · skip
        refine w_iconst (v := 0) s87_29 rfl ?_
        refine w_zret0 s87_30 rk87 ?_
        first | exact ⟨am_zz (by simp_all [x_fits]), rfl⟩ | exact ⟨am_zo (by simp_all [x_fits]), rfl⟩
      · skip
        refine w_iload_n s87_20 rfl ?_
        refine w_iconst (v := 4) s87_21 rfl ?_
        refine w_icmpne s87_22 rfl  (fun c22 => ?_) (fun c22 => ?_)
        · skip
          refine w_iconst (v := 0) s87_29 rfl ?_
          refine w_zret0 s87_30 rk87 ?_
          first | exact ⟨am_zz (by simp_all [x_fits]), rfl⟩ | exact ⟨am_zo (by simp_all [x_fits]), rfl⟩
        · skip
          refine w_iconst (v := 1) s87_25 rfl ?_
          refine w_goto s87_26 rfl ?_
          refine w_zret1 s87_30 rk87 ?_
          first | exact ⟨am_zz (by simp_all [x_fits]), rfl⟩ | exact ⟨am_zo (by simp_all [x_fits]), rfl⟩
    · skip
      refine w_iload_n s87_10 rfl ?_
      refine w_iconst (v := 1) s87_11 rfl ?_
      refine w_icmpeq s87_12 rfl  (fun c12 => ?_) (fun c12 => ?_)
      · skip
        refine w_iconst (v := 1) s87_25 rfl ?_
        refine w_goto s87_26 rfl ?_
        refine w_zret1 s87_30 rk87 ?_
        first | exact ⟨am_zz (by simp_all [x_fits]), rfl⟩ | exact ⟨am_zo (by simp_all [x_fits]), rfl⟩
      · skip
        refine w_iload_n s87_15 rfl ?_
        refine w_iconst (v := 5) s87_16 rfl ?_
        refine w_icmpne s87_17 rfl  (fun c17 => ?_) (fun c17 => ?_)
        · skip
          refine w_iconst (v := 0) s87_29 rfl ?_
          refine w_zret0 s87_30 rk87 ?_
          first | exact ⟨am_zz (by simp_all [x_fits]), rfl⟩ | exact ⟨am_zo (by simp_all [x_fits]), rfl⟩
        · skip
          refine w_iload_n s87_20 rfl ?_
          refine w_iconst (v := 4) s87_21 rfl ?_
          refine w_icmpne s87_22 rfl  (fun c22 => ?_) (fun c22 => ?_)
          · skip
            refine w_iconst (v := 0) s87_29 rfl ?_
            refine w_zret0 s87_30 rk87 ?_
            first | exact ⟨am_zz (by simp_all [x_fits]), rfl⟩ | exact ⟨am_zo (by simp_all [x_fits]), rfl⟩
          · skip
            refine w_iconst (v := 1) s87_25 rfl ?_
            refine w_goto s87_26 rfl ?_
            refine w_zret1 s87_30 rk87 ?_
            first | exact ⟨am_zz (by simp_all [x_fits]), rfl⟩ | exact ⟨am_zo (by simp_all [x_fits]), rfl⟩
theorem c88 (b : Bool) (h : am_H) : am_rd 88 [.int (am_bi b)] h (.int (am_bi b)) := by
  show am_wp _ (_, [_], _) _ _
  refine w_iload_n s88_0 rfl ?_
  refine w_ifeqB s88_1 rfl  (fun c1 => ?_) (fun c1 => ?_)
  · skip
    refine w_iconst (v := 0) s88_8 rfl ?_
    refine w_iret s88_9 rk88 ?_
    first | exact ⟨am_zz (by assumption), rfl⟩ | exact ⟨am_zo (by assumption), rfl⟩
  · skip
    refine w_iconst (v := 1) s88_4 rfl ?_
    refine w_goto s88_5 rfl ?_
    refine w_iret s88_9 rk88 ?_
    first | exact ⟨am_zz (by assumption), rfl⟩ | exact ⟨am_zo (by assumption), rfl⟩
theorem c36 {h0 h : am_H} {a b : Nat} {cc : Nat → Nat} {aa : Nat → Nat → Int32} {P : x_P} {D : x_D} (hx : XL h0 a b h cc aa P D) (iv : IV cc aa) (i j : Nat) (hi : i < cc 3) (hj : j < cc 3) : am_rd 36 [.ref (P 0 i), .ref (P 0 j)] h (.int (x_walks aa (nI i) (nI j))) := by
  have n0 := iv.n0
  have n2 := iv.n2
  have n3 := iv.n3
  have n7 := iv.n7
  have n8 := iv.n8
  have n16 := iv.n16
  have n20 := iv.n20
  have n28 := iv.n28
  have n31 := iv.n31
  have n38 := iv.n38
  have n45 := iv.n45
  obtain ⟨⟨x1, h1, e1⟩, ⟨y1, h2, e2⟩⟩ := iv.sq i hi
  obtain ⟨⟨x2, h3, e3⟩, ⟨y2, h4, e4⟩⟩ := iv.sq j hj
  show am_wp _ (_, [_, _], _) _ _
  refine w_aload_n s36_0 rfl ?_
  refine w_getf s36_1 (hx.sq (i) (by omega)) rfl ?_
  refine w_aload_n s36_4 rfl ?_
  refine w_getf s36_5 (hx.sq (j) (by omega)) rfl ?_
  refine w_isub s36_8 rfl ?_
  refine w_abs (v := x_ad (aa 4 i) (aa 4 j)) s36_9 ro36 rfl (by rw [e1, e3]; exact x_abs (by omega) (by omega)) ?_
  refine w_aload_n s36_12 rfl ?_
  refine w_getf s36_13 (hx.sq (i) (by omega)) rfl ?_
  refine w_aload_n s36_16 rfl ?_
  refine w_getf s36_17 (hx.sq (j) (by omega)) rfl ?_
  refine w_isub s36_20 rfl ?_
  refine w_abs (v := x_ad (aa 5 i) (aa 5 j)) s36_21 ro36 rfl (by rw [e2, e4]; exact x_abs (by omega) (by omega)) ?_
  refine w_iadd s36_24 rfl ?_
  refine w_iret s36_25 rk36 ?_
  exact ⟨by rw [x_walks_n (by omega) (by omega)], rfl⟩
theorem c37 {h0 h : am_H} {a b : Nat} {cc : Nat → Nat} {aa : Nat → Nat → Int32} {P : x_P} {D : x_D} (hx : XL h0 a b h cc aa P D) (i : Nat) (hi : i < cc 3) (d : Int32) : am_rd 37 [.ref (P 0 i), .int d] h (.int (am_bi (x_has (aa 6 i) (x_rem d 7)))) := by
  show am_wp _ (_, [_, _], _) _ _
  refine w_aload_n s37_0 rfl ?_
  refine w_getf s37_1 (hx.sq (i) (by omega)) rfl ?_
  refine w_iload_n s37_4 rfl ?_
  refine w_bipush (v := 7) s37_5 rfl ?_
  refine w_irem s37_7 (by decide) rfl ?_
  refine w_ishr s37_8 rfl ?_
  refine w_iconst (v := 1) s37_9 rfl ?_
  refine w_iand s37_10 rfl ?_
  refine w_iconst (v := 1) s37_11 rfl ?_
  refine w_icmpne s37_12 rfl  (fun c12 => ?_) (fun c12 => ?_)
  · skip
    refine w_iconst (v := 0) s37_19 rfl ?_
    refine w_zret0 s37_20 rk37 ?_
    first | exact ⟨am_zz (decide_eq_true (by assumption)), rfl⟩ | exact ⟨am_zo (decide_eq_false (by assumption)), rfl⟩
  · skip
    refine w_iconst (v := 1) s37_15 rfl ?_
    refine w_goto s37_16 rfl ?_
    refine w_zret1 s37_20 rk37 ?_
    first | exact ⟨am_zz (decide_eq_true (by assumption)), rfl⟩ | exact ⟨am_zo (decide_eq_false (by assumption)), rfl⟩
theorem c90 {h0 h : am_H} {a b : Nat} {cc : Nat → Nat} {aa : Nat → Nat → Int32} {P : x_P} {D : x_D} (hx : XL h0 a b h cc aa P D) (iv : IV cc aa) (i j : Nat) (hi : i < cc 3) (hj : j < cc 3) : am_rd 90 [.ref 3, .int (nI i), .int (nI j)] h (.int (x_walks aa (nI i) (nI j))) := by
  have n0 := iv.n0
  have n2 := iv.n2
  have n3 := iv.n3
  have n7 := iv.n7
  have n8 := iv.n8
  have n16 := iv.n16
  have n20 := iv.n20
  have n28 := iv.n28
  have n31 := iv.n31
  have n38 := iv.n38
  have n45 := iv.n45
  show am_wp _ (_, [_, _, _], _) _ _
  refine w_aload_n s90_0 rfl ?_
  refine w_getf s90_1 hx.o rfl ?_
  refine w_iload_n s90_4 rfl ?_
  refine w_callV1r s90_5 (hx.l 0 (by decide)) ow184 mc90_184 rfl rfl (hx.get 0 (by decide) (i) (show (i) < cc 3 by omega)) ?_
  refine w_cast s90_8 (hx.sq (i) (by omega)) ?_
  refine w_aload_n s90_11 rfl ?_
  refine w_getf s90_12 hx.o rfl ?_
  refine w_iload_n s90_15 rfl ?_
  refine w_callV1r s90_16 (hx.l 0 (by decide)) ow184 mc90_184 rfl rfl (hx.get 0 (by decide) (j) (show (j) < cc 3 by omega)) ?_
  refine w_cast s90_19 (hx.sq (j) (by omega)) ?_
  refine w_callV1r s90_22 (hx.sq (i) (by omega)) ow36 mc90_36 rfl rfl (c36 hx iv (i) (j) (by omega) (by omega)) ?_
  refine w_iret s90_25 rk90 ?_
  exact ⟨rfl, rfl⟩
theorem c91 {h0 h : am_H} {a b : Nat} {cc : Nat → Nat} {aa : Nat → Nat → Int32} {P : x_P} {D : x_D} (hx : XL h0 a b h cc aa P D) (iv : IV cc aa) (i j : Nat) (hi : i < cc 3) (hj : j < cc 3) : am_rd 91 [.ref 3, .int (nI i), .int (nI j)] h (.int (am_bi (!decide (nI (cc 7) < x_walks aa (nI i) (nI j))))) := by
  have n0 := iv.n0
  have n2 := iv.n2
  have n3 := iv.n3
  have n7 := iv.n7
  have n8 := iv.n8
  have n16 := iv.n16
  have n20 := iv.n20
  have n28 := iv.n28
  have n31 := iv.n31
  have n38 := iv.n38
  have n45 := iv.n45
  show am_wp _ (_, [_, _, _], _) _ _
  refine w_aload_n s91_0 rfl ?_
  refine w_iload_n s91_1 rfl ?_
  refine w_iload_n s91_2 rfl ?_
  refine w_callV2r s91_3 hx.o ow90 mc91_90 rfl rfl (c90 hx iv (i) (j) (by omega) (by omega)) ?_
  refine w_aload_n s91_6 rfl ?_
  refine w_getf s91_7 hx.o rfl ?_
  refine w_icmpgt s91_10 rfl  (fun c10 => ?_) (fun c10 => ?_)
  · skip
    refine w_iconst (v := 0) s91_17 rfl ?_
    refine w_zret0 s91_18 rk91 ?_
    first | exact ⟨am_zz (by simp only [decide_eq_false c10]; rfl), rfl⟩ | exact ⟨am_zo (by simp only [decide_eq_true c10]; rfl), rfl⟩
  · skip
    refine w_iconst (v := 1) s91_13 rfl ?_
    refine w_goto s91_14 rfl ?_
    refine w_zret1 s91_18 rk91 ?_
    first | exact ⟨am_zz (by simp only [decide_eq_false c10]; rfl), rfl⟩ | exact ⟨am_zo (by simp only [decide_eq_true c10]; rfl), rfl⟩
theorem x_today_l {cc : Nat → Nat} {aa : Nat → Nat → Int32} (iv : IV cc aa) (h : 0 < cc 31) : x_today cc aa = decide (aa 35 (cc 31 - 1) = nI (cc 2)) := by
  unfold x_today
  by_cases e : aa 35 (cc 31 - 1) = nI (cc 2)
  · rw [decide_eq_true e]
    exact x_any_t (i := cc 31 - 1) (decide_eq_true e) _ (by omega)
  · rw [decide_eq_false e]
    cases f : x_any (fun i => decide (aa 35 i = nI (cc 2))) (cc 31) with
    | false => rfl
    | true =>
      obtain ⟨i, i1, i2, -⟩ := x_any_i f
      have h1 := iv.yo i (cc 31 - 1) (by omega) (by omega)
      obtain ⟨d, d1, d2⟩ := iv.yd (cc 31 - 1) (by omega)
      have n2 := iv.n2
      rw [of_decide_eq_true i2, d2, nI_leI (by omega) (by omega)] at h1
      exact absurd (d2.trans (by rw [show d = cc 2 by omega])) e
theorem c92 {h0 h : am_H} {a b : Nat} {cc : Nat → Nat} {aa : Nat → Nat → Int32} {P : x_P} {D : x_D} (hx : XL h0 a b h cc aa P D) (iv : IV cc aa) : am_rd 92 [.ref 3] h (.int (am_bi (x_today cc aa))) := by
  have n0 := iv.n0
  have n2 := iv.n2
  have n3 := iv.n3
  have n7 := iv.n7
  have n8 := iv.n8
  have n16 := iv.n16
  have n20 := iv.n20
  have n28 := iv.n28
  have n31 := iv.n31
  have n38 := iv.n38
  have n45 := iv.n45
  show am_wp _ (_, [_], _) _ _
  refine w_aload_n s92_0 rfl ?_
  refine w_getf s92_1 hx.o rfl ?_
  refine w_callV0r s92_4 (hx.l 4 (by decide)) ow182 mc92_182 rfl rfl (hx.emp 4 (by decide)) ?_
  refine w_ifneB s92_7 rfl  (fun c7 => ?_) (fun c7 => ?_)
  · skip
    have hz : cc 31 = 0 := of_decide_eq_true c7
    refine w_iconst (v := 0) s92_43 rfl ?_
    refine w_zret0 s92_44 rk92 ?_
    first | exact ⟨am_zz (by rw [x_today_l iv (by omega)]; exact decide_eq_true (by assumption)), rfl⟩ | exact ⟨am_zo (by rw [x_today_l iv (by omega)]; exact decide_eq_false (by assumption)), rfl⟩ | exact ⟨am_zo (by unfold x_today; rw [hz]; rfl), rfl⟩
  · skip
    have hz : ¬ cc 31 = 0 := of_decide_eq_false c7
    refine w_aload_n s92_10 rfl ?_
    refine w_getf s92_11 hx.o rfl ?_
    refine w_aload_n s92_14 rfl ?_
    refine w_getf s92_15 hx.o rfl ?_
    refine w_callV0r s92_18 (hx.l 4 (by decide)) ow181 mc92_181 rfl rfl (hx.size 4 (by decide)) ?_
    refine w_iconst (v := 1) s92_21 rfl ?_
    refine w_isubN (x := cc 31) (y := 1) s92_22 (by omega) ?_
    refine w_callV1r s92_23 (hx.l 4 (by decide)) ow184 mc92_184 rfl rfl (hx.get 4 (by decide) ((cc 31 - 1)) (show ((cc 31 - 1)) < cc 31 by omega)) ?_
    refine w_cast s92_26 (hx.cy ((cc 31 - 1)) (by omega)) ?_
    refine w_getf s92_29 (hx.cy ((cc 31 - 1)) (by omega)) rfl ?_
    refine w_aload_n s92_32 rfl ?_
    refine w_getf s92_33 hx.o rfl ?_
    refine w_icmpne s92_36 rfl  (fun c36 => ?_) (fun c36 => ?_)
    · skip
      refine w_iconst (v := 0) s92_43 rfl ?_
      refine w_zret0 s92_44 rk92 ?_
      first | exact ⟨am_zz (by rw [x_today_l iv (by omega)]; exact decide_eq_true (by assumption)), rfl⟩ | exact ⟨am_zo (by rw [x_today_l iv (by omega)]; exact decide_eq_false (by assumption)), rfl⟩ | exact ⟨am_zo (by unfold x_today; rw [hz]; rfl), rfl⟩
    · skip
      refine w_iconst (v := 1) s92_39 rfl ?_
      refine w_goto s92_40 rfl ?_
      refine w_zret1 s92_44 rk92 ?_
      first | exact ⟨am_zz (by rw [x_today_l iv (by omega)]; exact decide_eq_true (by assumption)), rfl⟩ | exact ⟨am_zo (by rw [x_today_l iv (by omega)]; exact decide_eq_false (by assumption)), rfl⟩ | exact ⟨am_zo (by unfold x_today; rw [hz]; rfl), rfl⟩
theorem c93 {h0 h : am_H} {a b : Nat} {cc : Nat → Nat} {aa : Nat → Nat → Int32} {P : x_P} {D : x_D} (hx : XL h0 a b h cc aa P D) (iv : IV cc aa) (s : Nat) (hs : s < cc 3) (d k : Int32) : am_rd 93 [.ref 3, .int (nI s), .int d, .int k] h (.int (am_bi (x_mkt aa (nI s) d k (cc 8)))) := by
  have n0 := iv.n0
  have n2 := iv.n2
  have n3 := iv.n3
  have n7 := iv.n7
  have n8 := iv.n8
  have n16 := iv.n16
  have n20 := iv.n20
  have n28 := iv.n28
  have n31 := iv.n31
  have n38 := iv.n38
  have n45 := iv.n45
  show am_wp _ (_, [_, _, _, _, _, _, _], _) _ _
  refine w_aload_n s93_0 rfl ?_
  refine w_getf s93_1 hx.o rfl ?_
  refine w_iload_n s93_4 rfl ?_
  refine w_callV1r s93_5 (hx.l 0 (by decide)) ow184 mc93_184 rfl rfl (hx.get 0 (by decide) (s) (show (s) < cc 3 by omega)) ?_
  refine w_cast s93_8 (hx.sq (s) (by omega)) ?_
  refine w_iload_n s93_11 rfl ?_
  refine w_callV1r s93_12 (hx.sq (s) (by omega)) ow37 mc93_37 rfl rfl (c37 hx (s) (by omega) _) ?_
  rw [show x_has (aa 6 s) (x_rem d 7) = x_mkt aa (nI s) d k 0 by unfold x_mkt tn; rw [nI_clamp (show s < 2 ^ 31 by omega)]; rfl]
  refine w_istore s93_15 rfl ?_
  show am_wp _ (_, [_, _, _, _, _, _, _], _) _ _
  refine w_iconst (v := 0) s93_17 rfl ?_
  refine w_istore s93_18 rfl ?_
  show am_wp _ (_, [_, _, _, _, _, _, _], _) _ _
  refine am_lp (n := cc 8) (P := fun i => ∀ v6 : Option Value, am_wp 93 (20, [_, _, _, _, some (.int (am_bi (x_mkt aa (nI s) d k i))), some (.int (nI i)), v6], []) h _) ?_ 0 (Nat.zero_le _) _
  intro i hi ihi v6
  show am_wp _ (_, [_, _, _, _, _, _, _], _) _ _
  refine w_iload s93_20 rfl ?_
  refine w_aload_n s93_22 rfl ?_
  refine w_getf s93_23 hx.o rfl ?_
  refine w_callV0r s93_26 (hx.l 1 (by decide)) ow181 mc93_181 rfl rfl (hx.size 1 (by decide)) ?_
  refine w_icmpgeN (x := i) (y := cc 8) s93_29 rfl (by omega) (by omega)  (fun c29 => ?_) (fun c29 => ?_)
  · skip
    refine w_iload s93_94 rfl ?_
    refine w_zret s93_96 rk93 ?_
    have e : i = cc 8 := by omega
    subst e
    exact ⟨rfl, rfl⟩
  · skip
    refine w_aload_n s93_32 rfl ?_
    refine w_getf s93_33 hx.o rfl ?_
    refine w_iload s93_36 rfl ?_
    refine w_callV1r s93_38 (hx.l 1 (by decide)) ow184 mc93_184 rfl rfl (hx.get 1 (by decide) (i) (show (i) < cc 8 by omega)) ?_
    refine w_cast s93_41 (hx.mv (i) (by omega)) ?_
    refine w_astore s93_44 rfl ?_
    show am_wp _ (_, [_, _, _, _, _, _, _], _) _ _
    refine w_aload s93_46 rfl ?_
    refine w_getf s93_48 (hx.mv (i) (by omega)) rfl ?_
    refine w_iload_n s93_51 rfl ?_
    refine w_icmpne s93_52 rfl  (fun c52 => ?_) (fun c52 => ?_)
    · skip
      refine w_iinc s93_88 rfl (nI_inc (i)) rfl ?_
      show am_wp _ (_, [_, _, _, _, _, _, _], _) _ _
      refine w_goto s93_91 rfl ?_
      refine am_wp_l (am_cons rfl (am_cons rfl (am_cons rfl (am_cons rfl (am_cons (am_si ?_) (am_cons rfl (am_cons rfl rfl))))))) (ihi (by omega) _)
      show am_bi (x_mkf aa (nI s) d k i (x_mkt aa (nI s) d k i)) = _
      unfold x_mkf
      first | (simp [am_bi, *]; done) | (clear ihi; simp_all [am_bi])
    · skip
      refine w_aload s93_55 rfl ?_
      refine w_getf s93_57 (hx.mv (i) (by omega)) rfl ?_
      refine w_iload_n s93_60 rfl ?_
      refine w_icmpgt s93_61 rfl  (fun c61 => ?_) (fun c61 => ?_)
      · skip
        refine w_iinc s93_88 rfl (nI_inc (i)) rfl ?_
        show am_wp _ (_, [_, _, _, _, _, _, _], _) _ _
        refine w_goto s93_91 rfl ?_
        refine am_wp_l (am_cons rfl (am_cons rfl (am_cons rfl (am_cons rfl (am_cons (am_si ?_) (am_cons rfl (am_cons rfl rfl))))))) (ihi (by omega) _)
        show am_bi (x_mkf aa (nI s) d k i (x_mkt aa (nI s) d k i)) = _
        unfold x_mkf
        first | (simp [am_bi, *]; done) | (clear ihi; simp_all [am_bi])
      · skip
        refine w_aload s93_64 rfl ?_
        refine w_getf s93_66 (hx.mv (i) (by omega)) rfl ?_
        refine w_iload_n s93_69 rfl ?_
        refine w_icmpne s93_70 rfl  (fun c70 => ?_) (fun c70 => ?_)
        · skip
          have c70' : ¬ d = aa 10 i := fun e => c70 e.symm
          clear c70
          refine w_aload s93_76 rfl ?_
          refine w_getf s93_78 (hx.mv (i) (by omega)) rfl ?_
          refine w_iload_n s93_81 rfl ?_
          refine w_icmpne s93_82 rfl  (fun c82 => ?_) (fun c82 => ?_)
          · skip
            have c82' : ¬ d = aa 11 i := fun e => c82 e.symm
            clear c82
            refine w_iinc s93_88 rfl (nI_inc (i)) rfl ?_
            show am_wp _ (_, [_, _, _, _, _, _, _], _) _ _
            refine w_goto s93_91 rfl ?_
            refine am_wp_l (am_cons rfl (am_cons rfl (am_cons rfl (am_cons rfl (am_cons (am_si ?_) (am_cons rfl (am_cons rfl rfl))))))) (ihi (by omega) _)
            show am_bi (x_mkf aa (nI s) d k i (x_mkt aa (nI s) d k i)) = _
            unfold x_mkf
            first | (simp [am_bi, *]; done) | (clear ihi; simp_all [am_bi])
          · skip
            have c82' : d = aa 11 i := c82.symm
            clear c82
            refine w_iconst (v := 1) s93_85 rfl ?_
            refine w_istore s93_86 rfl ?_
            show am_wp _ (_, [_, _, _, _, _, _, _], _) _ _
            refine w_iinc s93_88 rfl (nI_inc (i)) rfl ?_
            show am_wp _ (_, [_, _, _, _, _, _, _], _) _ _
            refine w_goto s93_91 rfl ?_
            refine am_wp_l (am_cons rfl (am_cons rfl (am_cons rfl (am_cons rfl (am_cons (am_si ?_) (am_cons rfl (am_cons rfl rfl))))))) (ihi (by omega) _)
            show am_bi (x_mkf aa (nI s) d k i (x_mkt aa (nI s) d k i)) = _
            unfold x_mkf
            first | (simp [am_bi, *]; done) | (clear ihi; simp_all [am_bi])
        · skip
          have c70' : d = aa 10 i := c70.symm
          clear c70
          refine w_iconst (v := 0) s93_73 rfl ?_
          refine w_istore s93_74 rfl ?_
          show am_wp _ (_, [_, _, _, _, _, _, _], _) _ _
          refine w_aload s93_76 rfl ?_
          refine w_getf s93_78 (hx.mv (i) (by omega)) rfl ?_
          refine w_iload_n s93_81 rfl ?_
          refine w_icmpne s93_82 rfl  (fun c82 => ?_) (fun c82 => ?_)
          · skip
            have c82' : ¬ d = aa 11 i := fun e => c82 e.symm
            clear c82
            refine w_iinc s93_88 rfl (nI_inc (i)) rfl ?_
            show am_wp _ (_, [_, _, _, _, _, _, _], _) _ _
            refine w_goto s93_91 rfl ?_
            refine am_wp_l (am_cons rfl (am_cons rfl (am_cons rfl (am_cons rfl (am_cons (am_si ?_) (am_cons rfl (am_cons rfl rfl))))))) (ihi (by omega) _)
            show am_bi (x_mkf aa (nI s) d k i (x_mkt aa (nI s) d k i)) = _
            unfold x_mkf
            first | (simp [am_bi, *]; done) | (clear ihi; simp_all [am_bi])
          · skip
            have c82' : d = aa 11 i := c82.symm
            clear c82
            refine w_iconst (v := 1) s93_85 rfl ?_
            refine w_istore s93_86 rfl ?_
            show am_wp _ (_, [_, _, _, _, _, _, _], _) _ _
            refine w_iinc s93_88 rfl (nI_inc (i)) rfl ?_
            show am_wp _ (_, [_, _, _, _, _, _, _], _) _ _
            refine w_goto s93_91 rfl ?_
            refine am_wp_l (am_cons rfl (am_cons rfl (am_cons rfl (am_cons rfl (am_cons (am_si ?_) (am_cons rfl (am_cons rfl rfl))))))) (ihi (by omega) _)
            show am_bi (x_mkf aa (nI s) d k i (x_mkt aa (nI s) d k i)) = _
            unfold x_mkf
            first | (simp [am_bi, *]; done) | (clear ihi; simp_all [am_bi])
def x_ush (x k : Int32) : Int32 := (x.toUInt32 >>> (k.toUInt32 &&& Int32.toUInt32 31)).toInt32
def x_b1 (s : Int32) : Int32 := s - (x_ush s 1 &&& 1431655765)
def x_b2 (v : Int32) : Int32 := (v &&& 858993459) + (x_ush v 2 &&& 858993459)
def x_b3 (v : Int32) : Int32 := (v + x_ush v 4) &&& 252645135
def x_b4 (v : Int32) : Int32 := v + x_ush v 8
def x_b5 (v : Int32) : Int32 := v + x_ush v 16
def x_bc (s : Int32) : Int32 := x_b5 (x_b4 (x_b3 (x_b2 (x_b1 s)))) &&& 63
theorem c175 (s : Int32) (h : am_H) : am_rd 175 [.int s] h (.int (x_bc s)) := by
  show am_wp _ (_, [_], _) _ _
  refine w_iload_n s175_0 rfl ?_
  refine w_iload_n s175_1 rfl ?_
  refine w_iconst (v := 1) s175_2 rfl ?_
  refine w_iushr s175_3 rfl ?_
  refine w_ldcw (v := 1431655765) s175_4 rfl ?_
  refine w_iand s175_7 rfl ?_
  refine w_isub s175_8 rfl ?_
  refine w_istore_n s175_9 rfl ?_
  show am_wp _ (_, [_], _) _ _
  refine w_iload_n s175_10 rfl ?_
  refine w_ldcw (v := 858993459) s175_11 rfl ?_
  refine w_iand s175_14 rfl ?_
  refine w_iload_n s175_15 rfl ?_
  refine w_iconst (v := 2) s175_16 rfl ?_
  refine w_iushr s175_17 rfl ?_
  refine w_ldcw (v := 858993459) s175_18 rfl ?_
  refine w_iand s175_21 rfl ?_
  refine w_iadd s175_22 rfl ?_
  refine w_istore_n s175_23 rfl ?_
  show am_wp _ (_, [_], _) _ _
  refine w_iload_n s175_24 rfl ?_
  refine w_iload_n s175_25 rfl ?_
  refine w_iconst (v := 4) s175_26 rfl ?_
  refine w_iushr s175_27 rfl ?_
  refine w_iadd s175_28 rfl ?_
  refine w_ldcw (v := 252645135) s175_29 rfl ?_
  refine w_iand s175_32 rfl ?_
  refine w_istore_n s175_33 rfl ?_
  show am_wp _ (_, [_], _) _ _
  refine w_iload_n s175_34 rfl ?_
  refine w_iload_n s175_35 rfl ?_
  refine w_bipush (v := 8) s175_36 rfl ?_
  refine w_iushr s175_38 rfl ?_
  refine w_iadd s175_39 rfl ?_
  refine w_istore_n s175_40 rfl ?_
  show am_wp _ (_, [_], _) _ _
  refine w_iload_n s175_41 rfl ?_
  refine w_iload_n s175_42 rfl ?_
  refine w_bipush (v := 16) s175_43 rfl ?_
  refine w_iushr s175_45 rfl ?_
  refine w_iadd s175_46 rfl ?_
  refine w_istore_n s175_47 rfl ?_
  show am_wp _ (_, [_], _) _ _
  refine w_iload_n s175_48 rfl ?_
  refine w_bipush (v := 63) s175_49 rfl ?_
  refine w_iand s175_51 rfl ?_
  refine w_iret s175_52 rk175 ?_
  exact ⟨rfl, rfl⟩
