/-! the class's sheets and barred pieces: what is read -/
theorem x_sz_n {aa : Nat → Nat → Int32} {s z : Nat} (ez : aa 13 s = nI z) (hz : z ≤ 80) : x_sz aa s = nI z := by
  unfold x_sz
  rw [ez, if_neg (nI_pos (by omega))]
theorem x_sg_n {aa : Nat → Nat → Int32} {s z k : Nat} (ez : aa 13 s = nI z) (hz : z ≤ 80) (hk : k < z) : x_sg aa s k = aa 14 (80 * s + k) := by
  unfold x_sg tn
  rw [ez, nI_clamp (by omega), if_pos hk]
theorem x_row_sg {aa : Nat → Nat → Int32} {s z k : Nat} (ez : aa 13 s = nI z) (hz : z ≤ 80) (hk : k < z) : x_row aa s k = x_sg aa s k := by
  rw [x_sg_n ez hz hk]
  exact if_pos (by omega)
theorem x_pl_0 (aa : Nat → Nat → Int32) (s i : Nat) : decide (0 < x_pl aa s i) = x_sf aa s i := by
  unfold x_pl
  rw [show x_rl (x_sf aa s) i 81 = if x_sf aa s i = true then x_rl (x_sf aa s) (i + 1) 80 + 1 else 0 from rfl]
  cases x_sf aa s i with
  | true => exact decide_eq_true (by rw [if_pos rfl]; omega)
  | false => exact decide_eq_false (by rw [if_neg (by decide)]; omega)
theorem x_pc_t {aa : Nat → Nat → Int32} {s i : Nat} (h : ¬ (0 < i ∧ x_sf aa s (i - 1) = true)) : x_pc aa s i = x_pl aa s i := if_neg h
theorem x_pc_f {aa : Nat → Nat → Int32} {s i : Nat} (h : 0 < i ∧ x_sf aa s (i - 1) = true) : x_pc aa s i = 0 := if_pos h
theorem x_pc_p {aa : Nat → Nat → Int32} {s i : Nat} (h : 0 < x_pc aa s i) : x_pc aa s i = x_pl aa s i := by
  unfold x_pc at h ⊢
  split at h
  · cases h
  · next c => rw [if_neg c]
theorem x_pc_0 {aa : Nat → Nat → Int32} {s i : Nat} (h : x_sf aa s i = false) : decide (0 < x_pc aa s i) = false := by
  have hp := x_pl_0 aa s i
  by_cases e : 0 < i ∧ x_sf aa s (i - 1) = true
  · rw [x_pc_f e]
    rfl
  · rw [x_pc_t e, hp, h]
theorem x_small_sign (c : Int32) : x_sign c = (x_in c 48 57 || (x_in c 97 122 || x_in c 65 90)) := by
  unfold x_sign x_small
  congr 1
  by_cases e : x_in c 65 90 = true
  · rw [if_pos e, e, Bool.or_true]
    obtain ⟨h1, h2⟩ : 65 ≤ c ∧ c ≤ 90 := by
      unfold x_in at e
      rw [Bool.and_eq_true] at e
      exact ⟨of_decide_eq_true e.1, of_decide_eq_true e.2⟩
    rw [Int32.le_iff_toInt_le] at h1 h2
    simp only [show (65 : Int32).toInt = 65 from rfl, show (90 : Int32).toInt = 90 from rfl] at h1 h2
    obtain ⟨j, hj, rfl⟩ : ∃ j : Nat, (65 ≤ j ∧ j ≤ 90) ∧ c = nI j := ⟨c.toInt.toNat, by omega, by apply Int32.toInt_inj.mp; rw [nI_toInt (by omega)]; omega⟩
    rw [show (32 : Int32) = nI 32 from rfl, nI_add, show (97 : Int32) = nI 97 from rfl, show (122 : Int32) = nI 122 from rfl, x_in_m (by decide) (by decide) (by omega)]
    exact decide_eq_true (by omega)
  · rw [if_neg e, show x_in c 65 90 = false by simpa using e, Bool.or_false]
theorem c24 {h0 h : am_H} {a b : Nat} {cc : Nat → Nat} {aa : Nat → Nat → Int32} {P : x_P} {D : x_D} (hx : XL h0 a b h cc aa P D) (iv : IV cc aa) (s : Nat) (hs : s < 4) : am_rd 24 [.ref (11 + 2 * s)] h (.int (am_bi (decide (aa 13 s < 0)))) := by
  have n0 := iv.n0
  have n2 := iv.n2
  have n3 := iv.n3
  have n7 := iv.n7
  have n8 := iv.n8
  have n16 := iv.n16
  have n20 := iv.n20
  have n28 := iv.n28
  have n31 := iv.n31
  have n38 := iv.n38
  have n45 := iv.n45
  show am_wp _ (_, [_], _) _ _
  refine w_aload_n s24_0 rfl ?_
  refine w_getf s24_1 (hx.sh (s) (by omega)) rfl ?_
  refine w_iconst (v := (-1)) s24_4 rfl ?_
  refine w_icmpne s24_5 rfl  (fun c5 => ?_) (fun c5 => ?_)
  · skip
    have c5x : ¬ aa 13 s < 0 := fun e => c5 (if_pos e)
    refine w_iconst (v := 0) s24_12 rfl ?_
    refine w_zret0 s24_13 rk24 ?_
    first | exact ⟨am_zz (decide_eq_true (by assumption)), rfl⟩ | exact ⟨am_zo (decide_eq_false (by assumption)), rfl⟩
  · skip
    have c5x : aa 13 s < 0 := by
      by_cases e : aa 13 s < 0
      · exact e
      · unfold x_sz at c5
        rw [if_neg e] at c5
        rw [c5]
        decide
    refine w_iconst (v := 1) s24_8 rfl ?_
    refine w_goto s24_9 rfl ?_
    refine w_zret1 s24_13 rk24 ?_
    first | exact ⟨am_zz (decide_eq_true (by assumption)), rfl⟩ | exact ⟨am_zo (decide_eq_false (by assumption)), rfl⟩
theorem c32 (s : Int32) (h : am_H) : am_rd 32 [.int s] h (.int (am_bi (x_in s 48 57))) := by
  show am_wp _ (_, [_], _) _ _
  refine w_iload_n s32_0 rfl ?_
  refine w_bipush (v := 48) s32_1 rfl ?_
  refine w_icmplt s32_3 rfl  (fun c3 => ?_) (fun c3 => ?_)
  · skip
    refine w_iconst (v := 0) s32_16 rfl ?_
    refine w_zret0 s32_17 rk32 ?_
    first | exact ⟨am_zz (x_in_t (by assumption) (by assumption)), rfl⟩ | exact ⟨am_zo (x_in_f1 (by assumption)), rfl⟩ | exact ⟨am_zo (x_in_f2 (by assumption)), rfl⟩
  · skip
    refine w_iload_n s32_6 rfl ?_
    refine w_bipush (v := 57) s32_7 rfl ?_
    refine w_icmpgt s32_9 rfl  (fun c9 => ?_) (fun c9 => ?_)
    · skip
      refine w_iconst (v := 0) s32_16 rfl ?_
      refine w_zret0 s32_17 rk32 ?_
      first | exact ⟨am_zz (x_in_t (by assumption) (by assumption)), rfl⟩ | exact ⟨am_zo (x_in_f1 (by assumption)), rfl⟩ | exact ⟨am_zo (x_in_f2 (by assumption)), rfl⟩
    · skip
      refine w_iconst (v := 1) s32_12 rfl ?_
      refine w_goto s32_13 rfl ?_
      refine w_zret1 s32_17 rk32 ?_
      first | exact ⟨am_zz (x_in_t (by assumption) (by assumption)), rfl⟩ | exact ⟨am_zo (x_in_f1 (by assumption)), rfl⟩ | exact ⟨am_zo (x_in_f2 (by assumption)), rfl⟩
theorem c33 (s : Int32) (h : am_H) : am_rd 33 [.int s] h (.int (am_bi (x_sign s))) := by
  show am_wp _ (_, [_], _) _ _
  refine w_iload_n s33_0 rfl ?_
  refine w_callS1r s33_1 mc33_32 rfl rfl (c32 _ _) ?_
  refine w_ifneB s33_4 rfl  (fun c4 => ?_) (fun c4 => ?_)
  · skip
    refine w_iconst (v := 1) s33_31 rfl ?_
    refine w_goto s33_32 rfl ?_
    refine w_zret1 s33_36 rk33 ?_
    first | exact ⟨am_zz (by rw [x_small_sign]; simp [*]; done), rfl⟩ | exact ⟨am_zo (by rw [x_small_sign]; simp [*]; done), rfl⟩
  · skip
    refine w_iload_n s33_7 rfl ?_
    refine w_bipush (v := 97) s33_8 rfl ?_
    refine w_icmplt s33_10 rfl  (fun c10 => ?_) (fun c10 => ?_)
    · skip
      have d1 : x_in s 97 122 = false := x_in_f1 c10
      refine w_iload_n s33_19 rfl ?_
      refine w_bipush (v := 65) s33_20 rfl ?_
      refine w_icmplt s33_22 rfl  (fun c22 => ?_) (fun c22 => ?_)
      · skip
        have d2 : x_in s 65 90 = false := x_in_f1 c22
        refine w_iconst (v := 0) s33_35 rfl ?_
        refine w_zret0 s33_36 rk33 ?_
        first | exact ⟨am_zz (by rw [x_small_sign]; simp [*]; done), rfl⟩ | exact ⟨am_zo (by rw [x_small_sign]; simp [*]; done), rfl⟩
      · skip
        refine w_iload_n s33_25 rfl ?_
        refine w_bipush (v := 90) s33_26 rfl ?_
        refine w_icmpgt s33_28 rfl  (fun c28 => ?_) (fun c28 => ?_)
        · skip
          have d2 : x_in s 65 90 = false := x_in_f2 c28
          refine w_iconst (v := 0) s33_35 rfl ?_
          refine w_zret0 s33_36 rk33 ?_
          first | exact ⟨am_zz (by rw [x_small_sign]; simp [*]; done), rfl⟩ | exact ⟨am_zo (by rw [x_small_sign]; simp [*]; done), rfl⟩
        · skip
          have d2 : x_in s 65 90 = true := x_in_t c22 c28
          refine w_iconst (v := 1) s33_31 rfl ?_
          refine w_goto s33_32 rfl ?_
          refine w_zret1 s33_36 rk33 ?_
          first | exact ⟨am_zz (by rw [x_small_sign]; simp [*]; done), rfl⟩ | exact ⟨am_zo (by rw [x_small_sign]; simp [*]; done), rfl⟩
    · skip
      refine w_iload_n s33_13 rfl ?_
      refine w_bipush (v := 122) s33_14 rfl ?_
      refine w_icmple s33_16 rfl  (fun c16 => ?_) (fun c16 => ?_)
      · skip
        have d1 : x_in s 97 122 = true := x_in_t c10 (Int32.not_lt.mpr c16)
        refine w_iconst (v := 1) s33_31 rfl ?_
        refine w_goto s33_32 rfl ?_
        refine w_zret1 s33_36 rk33 ?_
        first | exact ⟨am_zz (by rw [x_small_sign]; simp [*]; done), rfl⟩ | exact ⟨am_zo (by rw [x_small_sign]; simp [*]; done), rfl⟩
      · skip
        have d1 : x_in s 97 122 = false := x_in_f2 (Int32.not_le.mp c16)
        refine w_iload_n s33_19 rfl ?_
        refine w_bipush (v := 65) s33_20 rfl ?_
        refine w_icmplt s33_22 rfl  (fun c22 => ?_) (fun c22 => ?_)
        · skip
          have d2 : x_in s 65 90 = false := x_in_f1 c22
          refine w_iconst (v := 0) s33_35 rfl ?_
          refine w_zret0 s33_36 rk33 ?_
          first | exact ⟨am_zz (by rw [x_small_sign]; simp [*]; done), rfl⟩ | exact ⟨am_zo (by rw [x_small_sign]; simp [*]; done), rfl⟩
        · skip
          refine w_iload_n s33_25 rfl ?_
          refine w_bipush (v := 90) s33_26 rfl ?_
          refine w_icmpgt s33_28 rfl  (fun c28 => ?_) (fun c28 => ?_)
          · skip
            have d2 : x_in s 65 90 = false := x_in_f2 c28
            refine w_iconst (v := 0) s33_35 rfl ?_
            refine w_zret0 s33_36 rk33 ?_
            first | exact ⟨am_zz (by rw [x_small_sign]; simp [*]; done), rfl⟩ | exact ⟨am_zo (by rw [x_small_sign]; simp [*]; done), rfl⟩
          · skip
            have d2 : x_in s 65 90 = true := x_in_t c22 c28
            refine w_iconst (v := 1) s33_31 rfl ?_
            refine w_goto s33_32 rfl ?_
            refine w_zret1 s33_36 rk33 ?_
            first | exact ⟨am_zz (by rw [x_small_sign]; simp [*]; done), rfl⟩ | exact ⟨am_zo (by rw [x_small_sign]; simp [*]; done), rfl⟩
theorem c34 (s : Int32) (h : am_H) : am_rd 34 [.int s] h (.int (x_small s)) := by
  show am_wp _ (_, [_], _) _ _
  refine w_iload_n s34_0 rfl ?_
  refine w_bipush (v := 65) s34_1 rfl ?_
  refine w_icmplt s34_3 rfl  (fun c3 => ?_) (fun c3 => ?_)
  · skip
    refine w_iload_n s34_22 rfl ?_
    refine w_iret s34_23 rk34 ?_
    first | exact ⟨by unfold x_small; rw [if_pos (x_in_t c3 c9)]; exact congrArg (fun x => some (Value.int x)) hsm, rfl⟩ | exact ⟨by unfold x_small; rw [if_neg (by rw [x_in_f1 c3]; decide)], rfl⟩ | exact ⟨by unfold x_small; rw [if_neg (by rw [x_in_f2 c9]; decide)], rfl⟩
  · skip
    refine w_iload_n s34_6 rfl ?_
    refine w_bipush (v := 90) s34_7 rfl ?_
    refine w_icmpgt s34_9 rfl  (fun c9 => ?_) (fun c9 => ?_)
    · skip
      refine w_iload_n s34_22 rfl ?_
      refine w_iret s34_23 rk34 ?_
      first | exact ⟨by unfold x_small; rw [if_pos (x_in_t c3 c9)]; exact congrArg (fun x => some (Value.int x)) hsm, rfl⟩ | exact ⟨by unfold x_small; rw [if_neg (by rw [x_in_f1 c3]; decide)], rfl⟩ | exact ⟨by unfold x_small; rw [if_neg (by rw [x_in_f2 c9]; decide)], rfl⟩
    · skip
      have hsm : s - 65 + 97 = s + 32 := by
        rw [Int32.sub_eq_add_neg, Int32.add_assoc]
        rfl
      refine w_iload_n s34_12 rfl ?_
      refine w_bipush (v := 65) s34_13 rfl ?_
      refine w_isub s34_15 rfl ?_
      refine w_bipush (v := 97) s34_16 rfl ?_
      refine w_iadd s34_18 rfl ?_
      refine w_goto s34_19 rfl ?_
      refine w_iret s34_23 rk34 ?_
      first | exact ⟨by unfold x_small; rw [if_pos (x_in_t c3 c9)]; exact congrArg (fun x => some (Value.int x)) hsm, rfl⟩ | exact ⟨by unfold x_small; rw [if_neg (by rw [x_in_f1 c3]; decide)], rfl⟩ | exact ⟨by unfold x_small; rw [if_neg (by rw [x_in_f2 c9]; decide)], rfl⟩
theorem c28 {h0 h : am_H} {a b : Nat} {cc : Nat → Nat} {aa : Nat → Nat → Int32} {P : x_P} {D : x_D} (hx : XL h0 a b h cc aa P D) (s z : Nat) (hs : s < 4) (hz : z ≤ 80) (ez : aa 13 s = nI z) (i : Nat) (hi : i < z) : am_rd 28 [.ref (11 + 2 * s), .int (nI i)] h (.int (am_bi (decide (0 < x_pc aa s i)))) := by
  have hpl := x_pl_0 aa s i
  show am_wp _ (_, [_, _], _) _ _
  refine w_aload_n s28_0 rfl ?_
  refine w_getf s28_1 (hx.sh (s) (by omega)) rfl ?_
  refine w_iload_n s28_4 rfl ?_
  refine w_baldV (y := i) (v := x_sg aa s i) s28_5 (hx.sg (s) (by omega)) (Or.inl rfl) (by omega) (by decide) (x_row_sg ez hz hi) ?_
  refine w_callS1r s28_6 mc28_33 rfl rfl (c33 _ _) ?_
  refine w_ifeqB s28_9 rfl  (fun c9 => ?_) (fun c9 => ?_)
  · skip
    replace c9 : x_sf aa s i = false := c9
    refine w_iconst (v := 0) s28_34 rfl ?_
    refine w_zret0 s28_35 rk28 ?_
    rw [c9] at hpl
    first | exact ⟨am_zz (by rw [x_pc_t (by omega)]; exact hpl), rfl⟩ | exact ⟨am_zz (by rw [x_pc_t (by rw [c27]; simp)]; exact hpl), rfl⟩ | exact ⟨am_zo (by rw [x_pc_f ⟨by omega, c27⟩]; rfl), rfl⟩ | exact ⟨am_zo (x_pc_0 c9), rfl⟩
  · skip
    replace c9 : x_sf aa s i = true := c9
    refine w_iload_n s28_12 rfl ?_
    refine w_ifeqN (x := i) s28_13 rfl (by omega)  (fun c13 => ?_) (fun c13 => ?_)
    · skip
      refine w_iconst (v := 1) s28_30 rfl ?_
      refine w_goto s28_31 rfl ?_
      refine w_zret1 s28_35 rk28 ?_
      rw [c9] at hpl
      first | exact ⟨am_zz (by rw [x_pc_t (by omega)]; exact hpl), rfl⟩ | exact ⟨am_zz (by rw [x_pc_t (by rw [c27]; simp)]; exact hpl), rfl⟩ | exact ⟨am_zo (by rw [x_pc_f ⟨by omega, c27⟩]; rfl), rfl⟩ | exact ⟨am_zo (x_pc_0 c9), rfl⟩
    · skip
      refine w_aload_n s28_16 rfl ?_
      refine w_getf s28_17 (hx.sh (s) (by omega)) rfl ?_
      refine w_iload_n s28_20 rfl ?_
      refine w_iconst (v := 1) s28_21 rfl ?_
      refine w_isubN (x := i) (y := 1) s28_22 (by omega) ?_
      refine w_baldV (y := (i - 1)) (v := x_sg aa s (i - 1)) s28_23 (hx.sg (s) (by omega)) (Or.inl rfl) (by omega) (by decide) (x_row_sg ez hz (by omega)) ?_
      refine w_callS1r s28_24 mc28_33 rfl rfl (c33 _ _) ?_
      refine w_ifneB s28_27 rfl  (fun c27 => ?_) (fun c27 => ?_)
      · skip
        replace c27 : x_sf aa s (i - 1) = true := c27
        refine w_iconst (v := 0) s28_34 rfl ?_
        refine w_zret0 s28_35 rk28 ?_
        rw [c9] at hpl
        first | exact ⟨am_zz (by rw [x_pc_t (by omega)]; exact hpl), rfl⟩ | exact ⟨am_zz (by rw [x_pc_t (by rw [c27]; simp)]; exact hpl), rfl⟩ | exact ⟨am_zo (by rw [x_pc_f ⟨by omega, c27⟩]; rfl), rfl⟩ | exact ⟨am_zo (x_pc_0 c9), rfl⟩
      · skip
        replace c27 : x_sf aa s (i - 1) = false := c27
        refine w_iconst (v := 1) s28_30 rfl ?_
        refine w_goto s28_31 rfl ?_
        refine w_zret1 s28_35 rk28 ?_
        rw [c9] at hpl
        first | exact ⟨am_zz (by rw [x_pc_t (by omega)]; exact hpl), rfl⟩ | exact ⟨am_zz (by rw [x_pc_t (by rw [c27]; simp)]; exact hpl), rfl⟩ | exact ⟨am_zo (by rw [x_pc_f ⟨by omega, c27⟩]; rfl), rfl⟩ | exact ⟨am_zo (x_pc_0 c9), rfl⟩
theorem c29 {h0 h : am_H} {a b : Nat} {cc : Nat → Nat} {aa : Nat → Nat → Int32} {P : x_P} {D : x_D} (hx : XL h0 a b h cc aa P D) (s z : Nat) (hs : s < 4) (hz : z ≤ 80) (ez : aa 13 s = nI z) (i : Nat) (hi : i < z) : am_rd 29 [.ref (11 + 2 * s), .int (nI i)] h (.int (nI (x_pl aa s i))) := by
  have esz := x_sz_n ez hz
  have hzz : tn (aa 13 s) = z := by rw [ez]; exact nI_clamp (by omega)
  have hso := x_sf_o aa s hzz
  have hb : i + x_pl aa s i ≤ z := x_rl_b _ hso 81 i (by omega)
  have hf : x_sf aa s (i + x_pl aa s i) = false := x_rl_f _ hso 81 i (by omega)
  have ht : ∀ k, k < x_pl aa s i → x_sf aa s (i + k) = true := x_rl_t _ 81 i
  show am_wp _ (_, [_, _, _], _) _ _
  refine w_iload_n s29_0 rfl ?_
  refine w_istore_n s29_1 rfl ?_
  show am_wp _ (_, [_, _, _], _) _ _
  refine am_lp (n := x_pl aa s i) (P := fun k => am_wp 29 (2, [_, _, some (.int (nI (i + k)))], []) h _) ?_ 0 (Nat.zero_le _)
  intro k hk ihk
  show am_wp _ (_, [_, _, _], _) _ _
  refine w_iload_n s29_2 rfl ?_
  refine w_aload_n s29_3 rfl ?_
  refine w_getf s29_4 (hx.sh (s) (by omega)) rfl ?_
  rw [esz]
  refine w_icmpgeN (x := (i + k)) (y := z) s29_7 rfl (by omega) (by omega)  (fun c7 => ?_) (fun c7 => ?_)
  · skip
    have e : k = x_pl aa s i := by omega
    refine w_iload_n s29_28 rfl ?_
    refine w_iload_n s29_29 rfl ?_
    refine w_isubN (x := (i + k)) (y := i) s29_30 (by omega) ?_
    refine w_iret s29_31 rk29 ?_
    exact ⟨by rw [Nat.add_sub_cancel_left, e], rfl⟩
  · skip
    refine w_aload_n s29_10 rfl ?_
    refine w_getf s29_11 (hx.sh (s) (by omega)) rfl ?_
    refine w_iload_n s29_14 rfl ?_
    refine w_baldV (y := (i + k)) (v := x_sg aa s (i + k)) s29_15 (hx.sg (s) (by omega)) (Or.inl rfl) (by omega) (by decide) (x_row_sg ez hz (by omega)) ?_
    refine w_callS1r s29_16 mc29_33 rfl rfl (c33 _ _) ?_
    refine w_ifeqB s29_19 rfl  (fun c19 => ?_) (fun c19 => ?_)
    · skip
      replace c19 : x_sf aa s (i + k) = false := c19
      have e : k = x_pl aa s i := by
        rcases Nat.lt_or_ge k (x_pl aa s i) with d | d
        · rw [ht k d] at c19
          cases c19
        · omega
      refine w_iload_n s29_28 rfl ?_
      refine w_iload_n s29_29 rfl ?_
      refine w_isubN (x := (i + k)) (y := i) s29_30 (by omega) ?_
      refine w_iret s29_31 rk29 ?_
      exact ⟨by rw [Nat.add_sub_cancel_left, e], rfl⟩
    · skip
      replace c19 : x_sf aa s (i + k) = true := c19
      have e : k < x_pl aa s i := by
        rcases Nat.lt_or_ge k (x_pl aa s i) with d | d
        · exact d
        · rw [show k = x_pl aa s i by omega, hf] at c19
          cases c19
      refine w_iinc s29_22 rfl (nI_inc ((i + k))) rfl ?_
      show am_wp _ (_, [_, _, _], _) _ _
      refine w_goto s29_25 rfl ?_
      exact ihk (by omega)
theorem c30 {h0 h : am_H} {a b : Nat} {cc : Nat → Nat} {aa : Nat → Nat → Int32} {P : x_P} {D : x_D} (hx : XL h0 a b h cc aa P D) (iv : IV cc aa) (s z : Nat) (hs : s < 4) (hz : z ≤ 80) (ez : aa 13 s = nI z) : am_rd 30 [.ref (11 + 2 * s)] h (.int (x_wo aa s)) := by
  have n0 := iv.n0
  have n2 := iv.n2
  have n3 := iv.n3
  have n7 := iv.n7
  have n8 := iv.n8
  have n16 := iv.n16
  have n20 := iv.n20
  have n28 := iv.n28
  have n31 := iv.n31
  have n38 := iv.n38
  have n45 := iv.n45
  have esz := x_sz_n ez hz
  have hzz : tn (aa 13 s) = z := by rw [ez]; exact nI_clamp (by omega)
  show am_wp _ (_, [_, _, _], _) _ _
  refine w_iconst (v := 0) s30_0 rfl ?_
  refine w_istore_n s30_1 rfl ?_
  show am_wp _ (_, [_, _, _], _) _ _
  refine w_iconst (v := 0) s30_2 rfl ?_
  refine w_istore_n s30_3 rfl ?_
  show am_wp _ (_, [_, _, _], _) _ _
  refine am_lp (n := z) (P := fun i => am_wp 30 (4, [_, some (.int (x_sum (x_wf aa s) i)), some (.int (nI i))], []) h _) ?_ 0 (Nat.zero_le _)
  intro i hi ihi
  show am_wp _ (_, [_, _, _], _) _ _
  refine w_iload_n s30_4 rfl ?_
  refine w_aload_n s30_5 rfl ?_
  refine w_getf s30_6 (hx.sh (s) (by omega)) rfl ?_
  rw [esz]
  refine w_icmpgeN (x := i) (y := z) s30_9 rfl (by omega) (by omega)  (fun c9 => ?_) (fun c9 => ?_)
  · skip
    refine w_iload_n s30_54 rfl ?_
    refine w_iret s30_55 rk30 ?_
    have e : i = z := by omega
    subst e
    exact ⟨by unfold x_wo; rw [hzz], rfl⟩
  · skip
    refine w_aload_n s30_12 rfl ?_
    refine w_iload_n s30_13 rfl ?_
    refine w_callV1r s30_14 (hx.sh (s) (by omega)) ow28 mc30_28 rfl rfl (c28 hx (s) z (by omega) hz ez (i) (by omega)) ?_
    refine w_ifeqB s30_17 rfl  (fun c17 => ?_) (fun c17 => ?_)
    · skip
      have hp0 : x_pc aa s i = 0 := by have := of_decide_eq_false c17; omega
      refine w_iinc s30_48 rfl (nI_inc (i)) rfl ?_
      show am_wp _ (_, [_, _, _], _) _ _
      refine w_goto s30_51 rfl ?_
      refine am_wp_l (am_cons rfl (am_cons (am_si ?_) (am_cons rfl rfl))) (ihi (by omega))
      rw [x_sum_s]
      unfold x_wf
      first | (rw [if_pos hp0, Int32.add_zero]; done) | (rw [if_neg hpe, if_pos (by assumption), hpp]; done) | (rw [if_neg hpe, if_neg (by simp [*])]; done)
    · skip
      have hp0 := of_decide_eq_true c17
      have hpp := x_pc_p hp0
      have hpe : ¬ x_pc aa s i = 0 := by omega
      have hpb := x_pc_le aa s i
      refine w_iload_n s30_20 rfl ?_
      refine w_aload_n s30_21 rfl ?_
      refine w_getf s30_22 (hx.sh (s) (by omega)) rfl ?_
      refine w_iload_n s30_25 rfl ?_
      refine w_baldV (y := i) (v := x_sg aa s i) s30_26 (hx.sg (s) (by omega)) (Or.inl rfl) (by omega) (by decide) (x_row_sg ez hz (by omega)) ?_
      refine w_callS1r s30_27 mc30_32 rfl rfl (c32 _ _) ?_
      refine w_ifeqB s30_30 rfl  (fun c30 => ?_) (fun c30 => ?_)
      · skip
        refine w_iconst (v := 1) s30_45 rfl ?_
        refine w_iadd s30_46 rfl ?_
        refine w_istore_n s30_47 rfl ?_
        show am_wp _ (_, [_, _, _], _) _ _
        refine w_iinc s30_48 rfl (nI_inc (i)) rfl ?_
        show am_wp _ (_, [_, _, _], _) _ _
        refine w_goto s30_51 rfl ?_
        refine am_wp_l (am_cons rfl (am_cons (am_si ?_) (am_cons rfl rfl))) (ihi (by omega))
        rw [x_sum_s]
        unfold x_wf
        first | (rw [if_pos hp0, Int32.add_zero]; done) | (rw [if_neg hpe, if_pos (by assumption), hpp]; done) | (rw [if_neg hpe, if_neg (by simp [*])]; done)
      · skip
        refine w_aload_n s30_33 rfl ?_
        refine w_iload_n s30_34 rfl ?_
        refine w_callV1r s30_35 (hx.sh (s) (by omega)) ow29 mc30_29 rfl rfl (c29 hx (s) z (by omega) hz ez (i) (by omega)) ?_
        refine w_iconst (v := 2) s30_38 rfl ?_
        refine w_iaddN (x := (x_pl aa (s) (i))) (y := 2) s30_39 ?_
        refine w_iconst (v := 3) s30_40 rfl ?_
        refine w_idivN (x := ((x_pl aa (s) (i)) + 2)) (y := 3) s30_41 (by omega) (by omega) (by omega) ?_
        refine w_goto s30_42 rfl ?_
        refine w_iadd s30_46 rfl ?_
        refine w_istore_n s30_47 rfl ?_
        show am_wp _ (_, [_, _, _], _) _ _
        refine w_iinc s30_48 rfl (nI_inc (i)) rfl ?_
        show am_wp _ (_, [_, _, _], _) _ _
        refine w_goto s30_51 rfl ?_
        refine am_wp_l (am_cons rfl (am_cons (am_si ?_) (am_cons rfl rfl))) (ihi (by omega))
        rw [x_sum_s]
        unfold x_wf
        first | (rw [if_pos hp0, Int32.add_zero]; done) | (rw [if_neg hpe, if_pos (by assumption), hpp]; done) | (rw [if_neg hpe, if_neg (by simp [*])]; done)
theorem c31m {h0 h : am_H} {a b : Nat} {cc : Nat → Nat} {aa : Nat → Nat → Int32} {P : x_P} {D : x_D} (hx : XL h0 a b h cc aa P D) (iv : IV cc aa) (s : Nat) (hs : s < 4) (hm : aa 13 s < 0) (t : Int64) : am_rd 31 [.ref (11 + 2 * s), .long t] h (.long (x_d4w aa s t 0)) := by
  have esz : x_sz aa s = -1 := if_pos hm
  show am_wp _ (_, [_, _, _, _, _, _], _) _ _
  refine w_ldc2 (v := 31) s31_0 rfl ?_
  refine w_lload_n s31_3 rfl ?_
  refine w_lmul s31_4 rfl ?_
  refine w_aload_n s31_5 rfl ?_
  refine w_getf s31_6 (hx.sh (s) (by omega)) rfl ?_
  refine w_i2l s31_9 rfl ?_
  refine w_ladd s31_10 rfl ?_
  refine w_lstore_n s31_11 rfl ?_
  show am_wp _ (_, [_, _, _, _, _, _], _) _ _
  refine w_iconst (v := 0) s31_12 rfl ?_
  refine w_istore s31_13 rfl ?_
  show am_wp _ (_, [_, _, _, _, _, _], _) _ _
  refine w_iload s31_15 rfl ?_
  refine w_aload_n s31_17 rfl ?_
  refine w_getf s31_18 (hx.sh (s) (by omega)) rfl ?_
  rw [esz]
  refine w_icmpge s31_21 rfl  (fun c21 => ?_) (fun c => False.elim (c (by decide)))
  refine w_lload_n s31_45 rfl ?_
  refine w_lret s31_46 rk31 ?_
  refine ⟨?_, rfl⟩
  show _ = some (Value.long (31 * t + (x_sz aa s).toInt64))
  rw [esz]
theorem c31n {h0 h : am_H} {a b : Nat} {cc : Nat → Nat} {aa : Nat → Nat → Int32} {P : x_P} {D : x_D} (hx : XL h0 a b h cc aa P D) (iv : IV cc aa) (s z : Nat) (hs : s < 4) (hz : z ≤ 80) (ez : aa 13 s = nI z) (t : Int64) : am_rd 31 [.ref (11 + 2 * s), .long t] h (.long (x_d4w aa s t z)) := by
  have n0 := iv.n0
  have n2 := iv.n2
  have n3 := iv.n3
  have n7 := iv.n7
  have n8 := iv.n8
  have n16 := iv.n16
  have n20 := iv.n20
  have n28 := iv.n28
  have n31 := iv.n31
  have n38 := iv.n38
  have n45 := iv.n45
  have esz := x_sz_n ez hz
  show am_wp _ (_, [_, _, _, _, _, _], _) _ _
  refine w_ldc2 (v := 31) s31_0 rfl ?_
  refine w_lload_n s31_3 rfl ?_
  refine w_lmul s31_4 rfl ?_
  refine w_aload_n s31_5 rfl ?_
  refine w_getf s31_6 (hx.sh (s) (by omega)) rfl ?_
  refine w_i2l s31_9 rfl ?_
  refine w_ladd s31_10 rfl ?_
  refine w_lstore_n s31_11 rfl ?_
  show am_wp _ (_, [_, _, _, _, _, _], _) _ _
  refine w_iconst (v := 0) s31_12 rfl ?_
  refine w_istore s31_13 rfl ?_
  show am_wp _ (_, [_, _, _, _, _, _], _) _ _
  refine am_lp (n := z) (P := fun i => am_wp 31 (15, [_, _, _, some (.long (x_d4w aa s t i)), _, some (.int (nI i))], []) h _) ?_ 0 (Nat.zero_le _)
  intro i hi ihi
  show am_wp _ (_, [_, _, _, _, _, _], _) _ _
  refine w_iload s31_15 rfl ?_
  refine w_aload_n s31_17 rfl ?_
  refine w_getf s31_18 (hx.sh (s) (by omega)) rfl ?_
  rw [esz]
  refine w_icmpgeN (x := i) (y := z) s31_21 rfl (by omega) (by omega)  (fun c21 => ?_) (fun c21 => ?_)
  · skip
    refine w_lload_n s31_45 rfl ?_
    refine w_lret s31_46 rk31 ?_
    have e : i = z := by omega
    subst e
    exact ⟨rfl, rfl⟩
  · skip
    refine w_ldc2 (v := 31) s31_24 rfl ?_
    refine w_lload_n s31_27 rfl ?_
    refine w_lmul s31_28 rfl ?_
    refine w_aload_n s31_29 rfl ?_
    refine w_getf s31_30 (hx.sh (s) (by omega)) rfl ?_
    refine w_iload s31_33 rfl ?_
    refine w_baldV (y := i) (v := aa 14 (80 * s + i)) s31_35 (hx.sg (s) (by omega)) (Or.inl rfl) (by omega) (by decide) ((x_row_sg ez hz (by omega)).trans (x_sg_n ez hz (by omega))) ?_
    refine w_i2l s31_36 rfl ?_
    refine w_ladd s31_37 rfl ?_
    refine w_lstore_n s31_38 rfl ?_
    show am_wp _ (_, [_, _, _, _, _, _], _) _ _
    refine w_iinc s31_39 rfl (nI_inc (i)) rfl ?_
    show am_wp _ (_, [_, _, _, _, _, _], _) _ _
    refine w_goto s31_42 rfl ?_
    exact ihi (by omega)
theorem c31 {h0 h : am_H} {a b : Nat} {cc : Nat → Nat} {aa : Nat → Nat → Int32} {P : x_P} {D : x_D} (hx : XL h0 a b h cc aa P D) (iv : IV cc aa) (s : Nat) (hs : s < 4) (t : Int64) : am_rd 31 [.ref (11 + 2 * s), .long t] h (.long (x_d4w aa s t (tn (aa 13 s)))) := by
  rcases iv.sz s hs with e | ⟨z, hz, ez⟩
  · have := c31m hx iv s hs (by rw [e]; decide) t
    rw [show tn (aa 13 s) = 0 by rw [e]; rfl]
    exact this
  · rw [show tn (aa 13 s) = z by rw [ez]; exact nI_clamp (by omega)]
    exact c31n hx iv s z hs hz ez t
theorem x_fit_f1 {i n : Int32} {z : Nat} (h : i < 0) : x_fit i n z = false := by
  apply decide_eq_false
  rw [Int32.lt_iff_toInt_lt] at h
  simp only [show (0 : Int32).toInt = 0 from rfl] at h
  omega
theorem x_fit_m {i : Int32} {m z : Nat} (hm : m < 2 ^ 31) (h : ¬ i < 0) : x_fit i (nI m) z = decide (i.toInt + m ≤ z) := by
  unfold x_fit
  rw [Int32.lt_iff_toInt_lt] at h
  simp only [show (0 : Int32).toInt = 0 from rfl] at h
  rw [nI_toInt hm]
  apply decide_eq_decide.mpr
  omega
theorem c27 {h0 h : am_H} {a b : Nat} {cc : Nat → Nat} {aa : Nat → Nat → Int32} {P : x_P} {D : x_D} (hx : XL h0 a b h cc aa P D) (iv : IV cc aa) (s z : Nat) (hs : s < 4) (hz : z ≤ 80) (ez : aa 13 s = nI z) (i : Int32) (m : Nat) (hm : m < 2 ^ 31) : am_rd 27 [.ref (11 + 2 * s), .int i, .int (nI m)] h (.int (am_bi (x_fit i (nI m) z))) := by
  have n0 := iv.n0
  have n2 := iv.n2
  have n3 := iv.n3
  have n7 := iv.n7
  have n8 := iv.n8
  have n16 := iv.n16
  have n20 := iv.n20
  have n28 := iv.n28
  have n31 := iv.n31
  have n38 := iv.n38
  have n45 := iv.n45
  have esz := x_sz_n ez hz
  show am_wp _ (_, [_, _, _], _) _ _
  refine w_iload_n s27_0 rfl ?_
  refine w_iflt s27_1 rfl  (fun c1 => ?_) (fun c1 => ?_)
  · skip
    refine w_iconst (v := 0) s27_26 rfl ?_
    refine w_zret0 s27_27 rk27 ?_
    first | exact ⟨am_zo (x_fit_f1 c1), rfl⟩ | exact ⟨am_zz (by rw [x_fit_m hm c1]; exact decide_eq_true (by omega)), rfl⟩ | exact ⟨am_zo (by rw [x_fit_m hm c1]; exact decide_eq_false (by omega)), rfl⟩
  · skip
    refine w_iload_n s27_4 rfl ?_
    refine w_aload_n s27_5 rfl ?_
    refine w_getf s27_6 (hx.sh (s) (by omega)) rfl ?_
    rw [esz]
    refine w_icmpgtN (x := m) (y := z) s27_9 rfl (by omega) (by omega)  (fun c9 => ?_) (fun c9 => ?_)
    · skip
      have hi0 : 0 ≤ i.toInt := by
        rw [Int32.lt_iff_toInt_lt] at c1
        simp only [show (0 : Int32).toInt = 0 from rfl] at c1
        omega
      refine w_iconst (v := 0) s27_26 rfl ?_
      refine w_zret0 s27_27 rk27 ?_
      first | exact ⟨am_zo (x_fit_f1 c1), rfl⟩ | exact ⟨am_zz (by rw [x_fit_m hm c1]; exact decide_eq_true (by omega)), rfl⟩ | exact ⟨am_zo (by rw [x_fit_m hm c1]; exact decide_eq_false (by omega)), rfl⟩
    · skip
      refine w_iload_n s27_12 rfl ?_
      refine w_aload_n s27_13 rfl ?_
      refine w_getf s27_14 (hx.sh (s) (by omega)) rfl ?_
      rw [esz]
      refine w_iload_n s27_17 rfl ?_
      refine w_isubN (x := z) (y := m) s27_18 (by omega) ?_
      refine w_icmpgt s27_19 rfl  (fun c19 => ?_) (fun c19 => ?_)
      · skip
        rw [Int32.lt_iff_toInt_lt, nI_toInt (by omega)] at c19
        refine w_iconst (v := 0) s27_26 rfl ?_
        refine w_zret0 s27_27 rk27 ?_
        first | exact ⟨am_zo (x_fit_f1 c1), rfl⟩ | exact ⟨am_zz (by rw [x_fit_m hm c1]; exact decide_eq_true (by omega)), rfl⟩ | exact ⟨am_zo (by rw [x_fit_m hm c1]; exact decide_eq_false (by omega)), rfl⟩
      · skip
        rw [Int32.lt_iff_toInt_lt, nI_toInt (by omega)] at c19
        refine w_iconst (v := 1) s27_22 rfl ?_
        refine w_goto s27_23 rfl ?_
        refine w_zret1 s27_27 rk27 ?_
        first | exact ⟨am_zo (x_fit_f1 c1), rfl⟩ | exact ⟨am_zz (by rw [x_fit_m hm c1]; exact decide_eq_true (by omega)), rfl⟩ | exact ⟨am_zo (by rw [x_fit_m hm c1]; exact decide_eq_false (by omega)), rfl⟩
theorem c5 {h0 h : am_H} {a b : Nat} {cc : Nat → Nat} {aa : Nat → Nat → Int32} {P : x_P} {D : x_D} (hx : XL h0 a b h cc aa P D) (iv : IV cc aa) (s z : Nat) (hs : s < 4) (hz : z ≤ 80) (ez : aa 13 s = nI z) (p i n : Nat) (hp : p < cc 16) (hn : aa 17 p = nI n) (hn12 : n ≤ 12) (hin : i + n ≤ z) : am_rd 5 [.ref 19, .int (nI p), .ref (11 + 2 * s), .int (nI i)] h (.int (am_bi (x_all (fun k => decide (aa 18 (12 * p + k) = x_small (x_sg aa s (i + k)))) n))) := by
  have n0 := iv.n0
  have n2 := iv.n2
  have n3 := iv.n3
  have n7 := iv.n7
  have n8 := iv.n8
  have n16 := iv.n16
  have n20 := iv.n20
  have n28 := iv.n28
  have n31 := iv.n31
  have n38 := iv.n38
  have n45 := iv.n45
  show am_wp _ (_, [_, _, _, _, _], _) _ _
  refine w_iconst (v := 0) s5_0 rfl ?_
  refine w_istore s5_1 rfl ?_
  show am_wp _ (_, [_, _, _, _, _], _) _ _
  refine am_lp (n := n) (P := fun k => x_all (fun k => decide (aa 18 (12 * p + k) = x_small (x_sg aa s (i + k)))) k = true → am_wp 5 (3, [_, _, _, _, some (.int (nI k))], []) h _) ?_ 0 (Nat.zero_le _) rfl
  intro k hk ihk hA
  show am_wp _ (_, [_, _, _, _, _], _) _ _
  refine w_iload s5_3 rfl ?_
  refine w_aload_n s5_5 rfl ?_
  refine w_getf s5_6 hx.bp rfl ?_
  refine w_iload_n s5_9 rfl ?_
  refine w_ialdN (y := p) s5_10 hx.bl (by omega) (by decide) ?_
  rw [hn]
  refine w_icmpgeN (x := k) (y := n) s5_11 rfl (by omega) (by omega)  (fun c11 => ?_) (fun c11 => ?_)
  · skip
    have e : k = n := by omega
    subst e
    refine w_iconst (v := 1) s5_49 rfl ?_
    refine w_zret1 s5_50 rk5 ?_
    exact ⟨am_zz hA, rfl⟩
  · skip
    refine w_aload_n s5_14 rfl ?_
    refine w_getf s5_15 hx.bp rfl ?_
    refine w_iload_n s5_18 rfl ?_
    refine w_bipush (v := 12) s5_19 rfl ?_
    refine w_imulN (x := p) (y := 12) s5_21 ?_
    refine w_iload s5_22 rfl ?_
    refine w_iaddN (x := (p * 12)) (y := k) s5_24 ?_
    refine w_baldV (y := ((p * 12) + k)) (v := aa 18 (12 * p + k)) s5_25 hx.bs (Or.inl rfl) (by omega) (by decide) (by rw [Nat.mul_comm]) ?_
    refine w_aload_n s5_26 rfl ?_
    refine w_getf s5_27 (hx.sh (s) (by omega)) rfl ?_
    refine w_iload_n s5_30 rfl ?_
    refine w_iload s5_31 rfl ?_
    refine w_iaddN (x := i) (y := k) s5_33 ?_
    refine w_baldV (y := (i + k)) (v := x_sg aa s (i + k)) s5_34 (hx.sg (s) (by omega)) (Or.inl rfl) (by omega) (by decide) (x_row_sg ez hz (by omega)) ?_
    refine w_callS1r s5_35 mc5_34 rfl rfl (c34 _ _) ?_
    refine w_icmpeq s5_38 rfl  (fun c38 => ?_) (fun c38 => ?_)
    · skip
      refine w_iinc s5_43 rfl (nI_inc (k)) rfl ?_
      show am_wp _ (_, [_, _, _, _, _], _) _ _
      refine w_goto s5_46 rfl ?_
      exact ihk (by omega) (by rw [x_all_s, hA]; exact decide_eq_true c38)
    · skip
      refine w_iconst (v := 0) s5_41 rfl ?_
      refine w_zret0 s5_42 rk5 ?_
      exact ⟨am_zo (x_all_m (k := k + 1) (by rw [x_all_s, hA]; exact decide_eq_false c38) n (by omega)), rfl⟩
theorem c4 {h0 h : am_H} {a b : Nat} {cc : Nat → Nat} {aa : Nat → Nat → Int32} {P : x_P} {D : x_D} (hx : XL h0 a b h cc aa P D) (iv : IV cc aa) (s z : Nat) (hs : s < 4) (hz : z ≤ 80) (ez : aa 13 s = nI z) (i n : Nat) (hin : i + n ≤ z) : am_rd 4 [.ref 19, .ref (11 + 2 * s), .int (nI i), .int (nI n)] h (.int (am_bi (x_any (fun b => x_ak aa s i n b n) (cc 16)))) := by
  have n0 := iv.n0
  have n2 := iv.n2
  have n3 := iv.n3
  have n7 := iv.n7
  have n8 := iv.n8
  have n16 := iv.n16
  have n20 := iv.n20
  have n28 := iv.n28
  have n31 := iv.n31
  have n38 := iv.n38
  have n45 := iv.n45
  show am_wp _ (_, [_, _, _, _, _], _) _ _
  refine w_iconst (v := 0) s4_0 rfl ?_
  refine w_istore s4_1 rfl ?_
  show am_wp _ (_, [_, _, _, _, _], _) _ _
  refine am_lp (n := cc 16) (P := fun p => x_any (fun b => x_ak aa s i n b n) p = false → am_wp 4 (3, [_, _, _, _, some (.int (nI p))], []) h _) ?_ 0 (Nat.zero_le _) rfl
  intro p hp ihp hA
  show am_wp _ (_, [_, _, _, _, _], _) _ _
  refine w_iload s4_3 rfl ?_
  refine w_aload_n s4_5 rfl ?_
  refine w_getf s4_6 hx.bp rfl ?_
  refine w_icmpgeN (x := p) (y := cc 16) s4_9 rfl (by omega) (by omega)  (fun c9 => ?_) (fun c9 => ?_)
  · skip
    have e : p = cc 16 := by omega
    subst e
    refine w_iconst (v := 0) s4_42 rfl ?_
    refine w_zret0 s4_43 rk4 ?_
    exact ⟨am_zo hA, rfl⟩
  · skip
    obtain ⟨n1, -, hn1, en1⟩ := iv.bl p c9
    refine w_aload_n s4_12 rfl ?_
    refine w_getf s4_13 hx.bp rfl ?_
    refine w_iload s4_16 rfl ?_
    refine w_ialdN (y := p) s4_18 hx.bl (by omega) (by decide) ?_
    refine w_iload_n s4_19 rfl ?_
    refine w_icmpne s4_20 rfl  (fun c20 => ?_) (fun c20 => ?_)
    · skip
      skip
      refine w_iinc s4_36 rfl (nI_inc (p)) rfl ?_
      show am_wp _ (_, [_, _, _, _, _], _) _ _
      refine w_goto s4_39 rfl ?_
      refine ihp (by omega) ?_
      rw [x_any_s, hA]
      unfold x_ak
      first | (rw [decide_eq_false c20]; rfl) | (rw [c31, Bool.and_false]; rfl)
    · skip
      rw [en1] at c20
      have e1 : n1 = n := (nI_eq (by omega) (by omega)).mp c20
      subst e1
      refine w_aload_n s4_23 rfl ?_
      refine w_iload s4_24 rfl ?_
      refine w_aload_n s4_26 rfl ?_
      refine w_iload_n s4_27 rfl ?_
      refine w_callV3r s4_28 hx.bp ow5 mc4_5 rfl rfl (c5 hx iv s z hs hz ez p i n1 c9 en1 hn1 hin) ?_
      refine w_ifeqB s4_31 rfl  (fun c31 => ?_) (fun c31 => ?_)
      · skip
        refine w_iinc s4_36 rfl (nI_inc (p)) rfl ?_
        show am_wp _ (_, [_, _, _, _, _], _) _ _
        refine w_goto s4_39 rfl ?_
        refine ihp (by omega) ?_
        rw [x_any_s, hA]
        unfold x_ak
        first | (rw [decide_eq_false c20]; rfl) | (rw [c31, Bool.and_false]; rfl)
      · skip
        refine w_iconst (v := 1) s4_34 rfl ?_
        refine w_zret1 s4_35 rk4 ?_
        exact ⟨am_zz (x_any_t (i := p) (by unfold x_ak; rw [decide_eq_true en1, c31]; rfl) _ c9), rfl⟩
theorem c2 {h0 h : am_H} {a b : Nat} {cc : Nat → Nat} {aa : Nat → Nat → Int32} {P : x_P} {D : x_D} (hx : XL h0 a b h cc aa P D) (iv : IV cc aa) (s z : Nat) (hs : s < 4) (hz : z ≤ 80) (ez : aa 13 s = nI z) : am_rd 2 [.ref 19, .ref (11 + 2 * s)] h (.int (x_bi cc aa s)) := by
  have n0 := iv.n0
  have n2 := iv.n2
  have n3 := iv.n3
  have n7 := iv.n7
  have n8 := iv.n8
  have n16 := iv.n16
  have n20 := iv.n20
  have n28 := iv.n28
  have n31 := iv.n31
  have n38 := iv.n38
  have n45 := iv.n45
  have esz := x_sz_n ez hz
  have hzz : tn (aa 13 s) = z := by rw [ez]; exact nI_clamp (by omega)
  have hso := x_sf_o aa s hzz
  unfold x_bi
  rw [hzz]
  show am_wp _ (_, [_, _, _], _) _ _
  refine w_iconst (v := 0) s2_0 rfl ?_
  refine w_istore_n s2_1 rfl ?_
  show am_wp _ (_, [_, _, _], _) _ _
  refine am_lp (n := z) (P := fun i => x_any (x_bh cc aa s) i = false → am_wp 2 (2, [_, _, some (.int (nI i))], []) h _) ?_ 0 (Nat.zero_le _) rfl
  intro i hi ihi hA
  show am_wp _ (_, [_, _, _], _) _ _
  refine w_iload_n s2_2 rfl ?_
  refine w_aload_n s2_3 rfl ?_
  refine w_getf s2_4 (hx.sh (s) (by omega)) rfl ?_
  rw [esz]
  refine w_icmpgeN (x := i) (y := z) s2_7 rfl (by omega) (by omega)  (fun c7 => ?_) (fun c7 => ?_)
  · skip
    have e : i = z := by omega
    subst e
    refine w_bipush (v := (-9)) s2_40 rfl ?_
    refine w_iret s2_42 rk2 ?_
    exact ⟨by rw [x_first_f hA], rfl⟩
  · skip
    refine w_aload_n s2_10 rfl ?_
    refine w_iload_n s2_11 rfl ?_
    refine w_callV1r s2_12 (hx.sh (s) (by omega)) ow28 mc2_28 rfl rfl (c28 hx (s) z (by omega) hz ez (i) (by omega)) ?_
    refine w_ifeqB s2_15 rfl  (fun c15 => ?_) (fun c15 => ?_)
    · skip
      refine w_iinc s2_34 rfl (nI_inc (i)) rfl ?_
      show am_wp _ (_, [_, _, _], _) _ _
      refine w_goto s2_37 rfl ?_
      refine ihi (by omega) ?_
      rw [x_any_s, hA]
      unfold x_bh
      first | (rw [c15]; rfl) | (rw [hpp, c29, Bool.and_false]; rfl)
    · skip
      have hb : i + x_pl aa s i ≤ z := x_rl_b _ hso 81 i (by omega)
      have hpp := x_pc_p (of_decide_eq_true c15)
      refine w_aload_n s2_18 rfl ?_
      refine w_aload_n s2_19 rfl ?_
      refine w_iload_n s2_20 rfl ?_
      refine w_aload_n s2_21 rfl ?_
      refine w_iload_n s2_22 rfl ?_
      refine w_callV1r s2_23 (hx.sh (s) (by omega)) ow29 mc2_29 rfl rfl (c29 hx (s) z (by omega) hz ez (i) (by omega)) ?_
      refine w_callV3r s2_26 hx.bp ow4 mc2_4 rfl rfl (c4 hx iv s z (by omega) hz ez (i) ((x_pl aa (s) (i))) (by omega)) ?_
      refine w_ifeqB s2_29 rfl  (fun c29 => ?_) (fun c29 => ?_)
      · skip
        refine w_iinc s2_34 rfl (nI_inc (i)) rfl ?_
        show am_wp _ (_, [_, _, _], _) _ _
        refine w_goto s2_37 rfl ?_
        refine ihi (by omega) ?_
        rw [x_any_s, hA]
        unfold x_bh
        first | (rw [c15]; rfl) | (rw [hpp, c29, Bool.and_false]; rfl)
      · skip
        refine w_iload_n s2_32 rfl ?_
        refine w_iret s2_33 rk2 ?_
        exact ⟨by rw [x_first_t (i := i) hA (by unfold x_bh; rw [c15, hpp, c29]; rfl) z (by omega)], rfl⟩
