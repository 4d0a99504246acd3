/-! the reference: barred pieces sought, rates, taking a notice -/
def x_all (p : Nat → Bool) : Nat → Bool
  | 0 => true
  | n + 1 => x_all p n && p n
theorem x_all_s (p : Nat → Bool) (n : Nat) : x_all p (n + 1) = (x_all p n && p n) := rfl
theorem x_all_m {p : Nat → Bool} {k : Nat} (h : x_all p k = false) : ∀ n, k ≤ n → x_all p n = false
  | 0, c => by
    have e : k = 0 := by omega
    rw [e] at h
    exact h
  | n + 1, c => by
    by_cases e : k = n + 1
    · rw [← e]
      exact h
    · rw [x_all_s, x_all_m h n (by omega), Bool.false_and]
def x_first (p : Nat → Bool) : Nat → Int32
  | 0 => -9
  | n + 1 => if x_any p n = true then x_first p n else if p n = true then nI n else -9
theorem x_first_f {p : Nat → Bool} : ∀ {n : Nat}, x_any p n = false → x_first p n = -9
  | 0, _ => rfl
  | n + 1, h => by
    rw [x_any_s, Bool.or_eq_false_iff] at h
    unfold x_first
    rw [h.1, h.2]
    rfl
theorem x_first_t {p : Nat → Bool} {i : Nat} (h1 : x_any p i = false) (h2 : p i = true) : ∀ n, i < n → x_first p n = nI i
  | 0, c => by omega
  | n + 1, c => by
    unfold x_first
    by_cases e : i = n
    · subst e
      rw [h1, h2]
      rfl
    · rw [x_any_t h2 n (by omega), if_pos rfl]
      exact x_first_t h1 h2 n (by omega)
theorem x_any_i {p : Nat → Bool} : ∀ {n : Nat}, x_any p n = true → ∃ i, i < n ∧ p i = true ∧ x_any p i = false
  | 0, h => by cases h
  | n + 1, h => by
    by_cases c : x_any p n = true
    · obtain ⟨i, a, b⟩ := x_any_i c
      exact ⟨i, by omega, b⟩
    · have c' : x_any p n = false := by simpa using c
      rw [x_any_s, c', Bool.false_or] at h
      exact ⟨n, by omega, h, c'⟩
theorem x_first_neg {p : Nat → Bool} {n : Nat} (hn : n < 2 ^ 31) : x_first p n < 0 ↔ x_any p n = false := by
  by_cases c : x_any p n = true
  · obtain ⟨i, a, b, d⟩ := x_any_i c
    rw [x_first_t d b n a, c]
    exact ⟨fun e => absurd e (nI_pos (by omega)), fun e => by cases e⟩
  · have c' : x_any p n = false := by simpa using c
    rw [x_first_f c', c']
    exact ⟨fun _ => rfl, fun _ => by decide⟩
def x_ak (aa : Nat → Nat → Int32) (s i n b : Nat) (k : Nat) : Bool := decide (aa 17 b = nI n) && x_all (fun k => decide (aa 18 (12 * b + k) = x_small (x_sg aa s (i + k)))) k
theorem x_ak_f {aa : Nat → Nat → Int32} {s i n b k : Nat} (h : x_ak aa s i n b k = false) (hk : k ≤ n) : x_ak aa s i n b n = false := by
  unfold x_ak at h ⊢
  cases c : decide (aa 17 b = nI n) with
  | false => rfl
  | true =>
    rw [c, Bool.true_and] at h
    rw [x_all_m h n hk]
    rfl
/-- does a barred piece start at i -/
def x_bh (cc : Nat → Nat) (aa : Nat → Nat → Int32) (s i : Nat) : Bool := decide (0 < x_pc aa s i) && x_any (fun b => x_ak aa s i (x_pc aa s i) b (x_pc aa s i)) (cc 16)
def x_bi (cc : Nat → Nat) (aa : Nat → Nat → Int32) (s : Nat) : Int32 := x_first (x_bh cc aa s) (tn (aa 13 s))
def x_ba (cc : Nat → Nat) (aa : Nat → Nat → Int32) (s : Nat) : Bool := x_any (x_bh cc aa s) (tn (aa 13 s))
def S_barred (cc : Nat → Nat) (aa : Nat → Nat → Int32) (s : Int32) : x_A := if x_in s 0 3 = true then (if aa 13 (tn s) < 0 then S_meets cc aa 1 else (x_bi cc aa (tn s), cc, aa)) else (-1, cc, aa)
def S_rate (cc : Nat → Nat) (aa : Nat → Nat → Int32) (k r : Int32) : x_A := if x_in k 0 5 = true ∧ x_in r 0 1000 = true then (aa 19 (tn k), cc, ua aa 19 (upd (aa 19) (tn k) r)) else (-1, cc, aa)
def x_arq (n : Nat) (s : Int32) : Bool := decide (0 ≤ s.toInt ∧ s.toInt < (2 ^ n : Nat))
theorem x_sh : ∀ n, n < 32 → ((nI n &&& 31).toBitVec.smod 32).toNat = n := by decide
theorem x_arq_n {n j : Nat} (hj : j < 2 ^ 31) : x_arq n (nI j) = decide (j < 2 ^ n) := by
  unfold x_arq
  apply decide_eq_decide.mpr
  rw [nI_toInt hj]
  omega
theorem x_arq_s {n : Nat} (hn : n < 32) {s : Int32} (h : ¬ s < 0) : (s >>> (nI n &&& 31) = 0) ↔ x_arq n s = true := by
  obtain ⟨j, hj, rfl⟩ := nI_of h
  rw [x_arq_n hj, pk_shrN hj _ n (x_sh n hn), ← nI_0, nI_eq (Nat.lt_of_le_of_lt (Nat.div_le_self _ _) hj) (by decide), decide_eq_true_iff]
  constructor
  · intro e
    rcases Nat.lt_or_ge j (2 ^ n) with d | d
    · exact d
    · have := Nat.div_pos d (Nat.two_pow_pos n)
      omega
  · intro d
    exact Nat.div_eq_of_lt d
theorem x_arq_g {n : Nat} {s : Int32} (h : s < 0) : x_arq n s = false := by
  apply decide_eq_false
  rw [Int32.lt_iff_toInt_lt] at h
  simp only [show (0 : Int32).toInt = 0 from rfl] at h
  omega
def S_notice (cc : Nat → Nat) (aa : Nat → Nat → Int32) (k s q t m : Int32) : x_A := if x_in k 0 5 = true ∧ x_in s 0 3 = true ∧ ¬ q = 0 ∧ x_arq (cc 3) q = true ∧ x_in t 1 9 = true ∧ x_in m 0 65535 = true then (if cc 20 = 40 then (-2, cc, aa) else if aa 13 (tn s) < 0 then S_meets cc aa 1 else if x_ba cc aa (tn s) = true then (-5, cc, aa) else if x_wo aa (tn s) = 0 then S_meets cc aa 5 else (nI (cc 20), uc cc 20 (cc 20 + 1), ua (ua (ua (ua (ua (ua aa 21 (upd (aa 21) (cc 20) k)) 22 (upd (aa 22) (cc 20) (x_wo aa (tn s)))) 23 (upd (aa 23) (cc 20) q)) 24 (upd (aa 24) (cc 20) (if x_fits k 1 = true then 3 else t))) 25 (upd (aa 25) (cc 20) (if x_fits k 4 = true then m else 0))) 26 (upd (aa 26) (cc 20) (nI (cc 2))))) else (-1, cc, aa)
theorem c131 {h : am_H} {cc : Nat → Nat} {aa : Nat → Nat → Int32} (hw : MW h cc aa) (n16 : cc 16 ≤ 16) (hbl : ∀ b, b < cc 16 → ∃ n, 0 < n ∧ n ≤ 12 ∧ aa 17 b = nI n) (s z : Nat) (hs : s < 4) (hz : z ≤ 80) (ez : aa 13 s = nI z) : am_rd 131 [.ref 27, .int (nI s)] h (.int (x_bi cc aa s)) := by
  have hz2 := nI_clamp (show z < 2 ^ 31 by omega)
  have hbi : x_bi cc aa s = x_first (x_bh cc aa s) z := by unfold x_bi; rw [ez, show tn (nI z) = z from hz2]
  rw [hbi]
  show am_wp _ (_, [_, _, _, _, _, _, _], _) _ _
  refine w_iconst (v := 0) s131_0 rfl ?_
  refine w_istore_n s131_1 rfl ?_
  show am_wp _ (_, [_, _, _, _, _, _, _], _) _ _
  refine am_lp (n := z) (P := fun i => ∀ v3 v4 v5 v6, x_any (x_bh cc aa s) i = false → am_wp 131 (2, [_, _, some (.int (nI i)), v3, v4, v5, v6], []) h _) ?_ 0 (Nat.zero_le _) _ _ _ _ rfl
  intro i hi ihi v3 v4 v5 v6 hzi
  show am_wp _ (_, [_, _, _, _, _, _, _], _) _ _
  refine w_iload_n s131_2 rfl ?_
  refine w_aload_n s131_3 rfl ?_
  refine w_getf s131_4 (hw 0 _ rfl) rfl ?_
  refine w_iload_n s131_7 rfl ?_
  refine w_ialdV (y := s) (v := nI z) s131_8 (hw 9 _ rfl) (by omega) (by decide) ez ?_
  refine w_icmpgeN (x := i) (y := z) s131_9 rfl (by omega) (by omega)  (fun c9 => ?_) (fun c9 => ?_)
  · skip
    have e : i = z := by omega
    subst e
    refine w_bipush (v := (-9)) s131_127 rfl ?_
    refine w_iret s131_129 rk131 ?_
    exact ⟨by rw [x_first_f hzi], rfl⟩
  · skip
    refine w_aload_n s131_12 rfl ?_
    refine w_iload_n s131_13 rfl ?_
    refine w_iload_n s131_14 rfl ?_
    have hp := x_pc_le aa s i
    refine w_callV2r s131_15 (hw 0 _ rfl) ow127 mc131_127 rfl rfl (c127 hw s z hs hz ez _ (by omega)) ?_
    refine w_istore_n s131_18 rfl ?_
    show am_wp _ (_, [_, _, _, _, _, _, _], _) _ _
    refine w_iconst (v := 0) s131_19 rfl ?_
    refine w_istore s131_20 rfl ?_
    show am_wp _ (_, [_, _, _, _, _, _, _], _) _ _
    refine am_lp (n := cc 16) (P := fun b => ∀ v5 v6, x_any (fun b => x_ak aa s i (x_pc aa s i) b (x_pc aa s i)) b = false → am_wp 131 (22, [_, _, _, _, some (.int (nI b)), v5, v6], []) h _) ?_ 0 (Nat.zero_le _) _ _ rfl
    clear v5 v6
    intro b hb ihb v5 v6 hzb
    show am_wp _ (_, [_, _, _, _, _, _, _], _) _ _
    refine w_iload s131_22 rfl ?_
    refine w_aload_n s131_24 rfl ?_
    refine w_getf s131_25 (hw 0 _ rfl) rfl ?_
    refine w_icmpgeN (x := b) (y := cc 16) s131_28 rfl (by omega) (by omega)  (fun c28 => ?_) (fun c28 => ?_)
    · skip
      have e : b = cc 16 := by omega
      subst e
      have hbh : x_bh cc aa s i = false := by unfold x_bh; rw [hzb, Bool.and_false]
      refine w_iinc s131_121 rfl (nI_inc (i)) rfl ?_
      show am_wp _ (_, [_, _, _, _, _, _, _], _) _ _
      refine w_goto s131_124 rfl ?_
      exact ihi (by omega) _ _ _ _ (by rw [x_any_s, hzi, hbh]; rfl)
    · skip
      refine w_iload_n s131_31 rfl ?_
      refine w_ifleN (x := (x_pc aa s i)) s131_32 rfl (by omega)  (fun c32 => ?_) (fun c32 => ?_)
      · skip
        have hbh : x_bh cc aa s i = false := by unfold x_bh; rw [c32]; rfl
        refine w_iinc s131_121 rfl (nI_inc (i)) rfl ?_
        show am_wp _ (_, [_, _, _, _, _, _, _], _) _ _
        refine w_goto s131_124 rfl ?_
        exact ihi (by omega) _ _ _ _ (by rw [x_any_s, hzi, hbh]; rfl)
      · skip
        refine w_aload_n s131_35 rfl ?_
        refine w_getf s131_36 (hw 0 _ rfl) rfl ?_
        refine w_iload s131_39 rfl ?_
        refine w_ialdN (y := b) s131_41 (hw 12 _ rfl) (by omega) (by decide) ?_
        refine w_iload_n s131_42 rfl ?_
        refine w_icmpne s131_43 rfl  (fun c43 => ?_) (fun c43 => ?_)
        · skip
          refine w_iconst (v := 0) s131_50 rfl ?_
          refine w_istore s131_51 rfl ?_
          show am_wp _ (_, [_, _, _, _, _, _, _], _) _ _
          refine w_iconst (v := 0) s131_53 rfl ?_
          refine w_istore s131_54 rfl ?_
          show am_wp _ (_, [_, _, _, _, _, _, _], _) _ _
          refine am_wp_l (am_cons rfl (am_cons rfl (am_cons rfl (am_cons rfl (am_cons rfl (am_cons (am_si ?_) rfl)))))) (am_lp (n := (x_pc aa s i)) (P := fun k => am_wp 131 (56, [_, _, _, _, _, some (.int (am_bi (x_ak aa s i (x_pc aa s i) b k))), some (.int (nI k))], []) h _) ?_ 0 (Nat.zero_le _))
          · simp [x_ak, x_all, am_bi, c43]
          intro k hk ihk
          show am_wp _ (_, [_, _, _, _, _, _, _], _) _ _
          refine w_iload s131_56 rfl ?_
          refine w_iload_n s131_58 rfl ?_
          refine w_icmpgeN (x := k) (y := (x_pc aa s i)) s131_59 rfl (by omega) (by omega)  (fun c59 => ?_) (fun c59 => ?_)
          · skip
            have e : k = (x_pc aa s i) := by omega
            subst e
            refine w_iload s131_108 rfl ?_
            refine w_ifeqB s131_110 rfl  (fun c110 => ?_) (fun c110 => ?_)
            · skip
              have hal : x_ak aa s i (x_pc aa s i) b (x_pc aa s i) = false := c110
              refine w_iinc s131_115 rfl (nI_inc (b)) rfl ?_
              show am_wp _ (_, [_, _, _, _, _, _, _], _) _ _
              refine w_goto s131_118 rfl ?_
              exact ihb (by omega) _ _ (by rw [x_any_s, hzb, hal]; rfl)
            · skip
              refine w_iload_n s131_113 rfl ?_
              refine w_iret s131_114 rk131 ?_
              have hb1 : x_ak aa s i (x_pc aa s i) b (x_pc aa s i) = true := c110
              have hbh : x_bh cc aa s i = true := by unfold x_bh; rw [x_any_t (i := b) hb1 _ (by omega), decide_eq_true (show 0 < (x_pc aa s i) by omega)]; rfl
              exact ⟨by rw [x_first_t hzi hbh z (by omega)], rfl⟩
          · skip
            refine w_iload s131_62 rfl ?_
            refine w_ifeqB s131_64 rfl  (fun c64 => ?_) (fun c64 => ?_)
            · skip
              refine w_iload s131_108 rfl ?_
              refine w_ifeqB s131_110 rfl  (fun c110 => ?_) (fun c => False.elim (by rw [c64] at c; cases c))
              have hal : x_ak aa s i (x_pc aa s i) b (x_pc aa s i) = false := x_ak_f c64 (by omega)
              refine w_iinc s131_115 rfl (nI_inc (b)) rfl ?_
              show am_wp _ (_, [_, _, _, _, _, _, _], _) _ _
              refine w_goto s131_118 rfl ?_
              exact ihb (by omega) _ _ (by rw [x_any_s, hzb, hal]; rfl)
            · skip
              have hp12 : (x_pc aa s i) ≤ 12 := by
                obtain ⟨n, _, hn, en⟩ := hbl b (by omega)
                have e1 : aa 17 b = nI (x_pc aa s i) := by
                  unfold x_ak at c64
                  simp at c64
                  exact c64.1
                rw [en] at e1
                have := (nI_eq (by omega) (by omega)).mp e1
                omega
              refine w_aload_n s131_67 rfl ?_
              refine w_getf s131_68 (hw 0 _ rfl) rfl ?_
              refine w_bipush (v := 12) s131_71 rfl ?_
              refine w_iload s131_73 rfl ?_
              refine w_imulN (x := 12) (y := b) s131_75 ?_
              refine w_iload s131_76 rfl ?_
              refine w_iaddN (x := (12 * b)) (y := k) s131_78 ?_
              refine w_ialdN (y := ((12 * b) + k)) s131_79 (hw 13 _ rfl) (by omega) (by decide) ?_
              refine w_aload_n s131_80 rfl ?_
              refine w_iload_n s131_81 rfl ?_
              refine w_iload_n s131_82 rfl ?_
              refine w_iload s131_83 rfl ?_
              refine w_iaddN (x := i) (y := k) s131_85 ?_
              refine w_callV2r s131_86 (hw 0 _ rfl) ow126 mc131_126 rfl rfl (c126 hw s z hs hz ez _ (by omega)) ?_
              refine w_callS1r s131_89 mc131_124 rfl rfl (c124 _ _) ?_
              refine w_icmpne s131_92 rfl  (fun c92 => ?_) (fun c92 => ?_)
              · skip
                refine w_iconst (v := 0) s131_99 rfl ?_
                refine w_istore s131_100 rfl ?_
                show am_wp _ (_, [_, _, _, _, _, _, _], _) _ _
                refine w_iinc s131_102 rfl (nI_inc (k)) rfl ?_
                show am_wp _ (_, [_, _, _, _, _, _, _], _) _ _
                refine w_goto s131_105 rfl ?_
                refine am_wp_l (am_cons rfl (am_cons rfl (am_cons rfl (am_cons rfl (am_cons rfl (am_cons (am_si ?_) rfl)))))) (ihk (by omega))
                unfold x_ak at c64 ⊢
                rw [x_all_s]
                simp_all [am_bi]
              · skip
                refine w_iconst (v := 1) s131_95 rfl ?_
                refine w_goto s131_96 rfl ?_
                refine w_istore s131_100 rfl ?_
                show am_wp _ (_, [_, _, _, _, _, _, _], _) _ _
                refine w_iinc s131_102 rfl (nI_inc (k)) rfl ?_
                show am_wp _ (_, [_, _, _, _, _, _, _], _) _ _
                refine w_goto s131_105 rfl ?_
                refine am_wp_l (am_cons rfl (am_cons rfl (am_cons rfl (am_cons rfl (am_cons rfl (am_cons (am_si ?_) rfl)))))) (ihk (by omega))
                unfold x_ak at c64 ⊢
                rw [x_all_s]
                simp_all [am_bi]
        · skip
          refine w_iconst (v := 1) s131_46 rfl ?_
          refine w_goto s131_47 rfl ?_
          refine w_istore s131_51 rfl ?_
          show am_wp _ (_, [_, _, _, _, _, _, _], _) _ _
          refine w_iconst (v := 0) s131_53 rfl ?_
          refine w_istore s131_54 rfl ?_
          show am_wp _ (_, [_, _, _, _, _, _, _], _) _ _
          refine am_wp_l (am_cons rfl (am_cons rfl (am_cons rfl (am_cons rfl (am_cons rfl (am_cons (am_si ?_) rfl)))))) (am_lp (n := (x_pc aa s i)) (P := fun k => am_wp 131 (56, [_, _, _, _, _, some (.int (am_bi (x_ak aa s i (x_pc aa s i) b k))), some (.int (nI k))], []) h _) ?_ 0 (Nat.zero_le _))
          · simp [x_ak, x_all, am_bi, c43]
          intro k hk ihk
          show am_wp _ (_, [_, _, _, _, _, _, _], _) _ _
          refine w_iload s131_56 rfl ?_
          refine w_iload_n s131_58 rfl ?_
          refine w_icmpgeN (x := k) (y := (x_pc aa s i)) s131_59 rfl (by omega) (by omega)  (fun c59 => ?_) (fun c59 => ?_)
          · skip
            have e : k = (x_pc aa s i) := by omega
            subst e
            refine w_iload s131_108 rfl ?_
            refine w_ifeqB s131_110 rfl  (fun c110 => ?_) (fun c110 => ?_)
            · skip
              have hal : x_ak aa s i (x_pc aa s i) b (x_pc aa s i) = false := c110
              refine w_iinc s131_115 rfl (nI_inc (b)) rfl ?_
              show am_wp _ (_, [_, _, _, _, _, _, _], _) _ _
              refine w_goto s131_118 rfl ?_
              exact ihb (by omega) _ _ (by rw [x_any_s, hzb, hal]; rfl)
            · skip
              refine w_iload_n s131_113 rfl ?_
              refine w_iret s131_114 rk131 ?_
              have hb1 : x_ak aa s i (x_pc aa s i) b (x_pc aa s i) = true := c110
              have hbh : x_bh cc aa s i = true := by unfold x_bh; rw [x_any_t (i := b) hb1 _ (by omega), decide_eq_true (show 0 < (x_pc aa s i) by omega)]; rfl
              exact ⟨by rw [x_first_t hzi hbh z (by omega)], rfl⟩
          · skip
            refine w_iload s131_62 rfl ?_
            refine w_ifeqB s131_64 rfl  (fun c64 => ?_) (fun c64 => ?_)
            · skip
              refine w_iload s131_108 rfl ?_
              refine w_ifeqB s131_110 rfl  (fun c110 => ?_) (fun c => False.elim (by rw [c64] at c; cases c))
              have hal : x_ak aa s i (x_pc aa s i) b (x_pc aa s i) = false := x_ak_f c64 (by omega)
              refine w_iinc s131_115 rfl (nI_inc (b)) rfl ?_
              show am_wp _ (_, [_, _, _, _, _, _, _], _) _ _
              refine w_goto s131_118 rfl ?_
              exact ihb (by omega) _ _ (by rw [x_any_s, hzb, hal]; rfl)
            · skip
              have hp12 : (x_pc aa s i) ≤ 12 := by
                obtain ⟨n, _, hn, en⟩ := hbl b (by omega)
                have e1 : aa 17 b = nI (x_pc aa s i) := by
                  unfold x_ak at c64
                  simp at c64
                  exact c64.1
                rw [en] at e1
                have := (nI_eq (by omega) (by omega)).mp e1
                omega
              refine w_aload_n s131_67 rfl ?_
              refine w_getf s131_68 (hw 0 _ rfl) rfl ?_
              refine w_bipush (v := 12) s131_71 rfl ?_
              refine w_iload s131_73 rfl ?_
              refine w_imulN (x := 12) (y := b) s131_75 ?_
              refine w_iload s131_76 rfl ?_
              refine w_iaddN (x := (12 * b)) (y := k) s131_78 ?_
              refine w_ialdN (y := ((12 * b) + k)) s131_79 (hw 13 _ rfl) (by omega) (by decide) ?_
              refine w_aload_n s131_80 rfl ?_
              refine w_iload_n s131_81 rfl ?_
              refine w_iload_n s131_82 rfl ?_
              refine w_iload s131_83 rfl ?_
              refine w_iaddN (x := i) (y := k) s131_85 ?_
              refine w_callV2r s131_86 (hw 0 _ rfl) ow126 mc131_126 rfl rfl (c126 hw s z hs hz ez _ (by omega)) ?_
              refine w_callS1r s131_89 mc131_124 rfl rfl (c124 _ _) ?_
              refine w_icmpne s131_92 rfl  (fun c92 => ?_) (fun c92 => ?_)
              · skip
                refine w_iconst (v := 0) s131_99 rfl ?_
                refine w_istore s131_100 rfl ?_
                show am_wp _ (_, [_, _, _, _, _, _, _], _) _ _
                refine w_iinc s131_102 rfl (nI_inc (k)) rfl ?_
                show am_wp _ (_, [_, _, _, _, _, _, _], _) _ _
                refine w_goto s131_105 rfl ?_
                refine am_wp_l (am_cons rfl (am_cons rfl (am_cons rfl (am_cons rfl (am_cons rfl (am_cons (am_si ?_) rfl)))))) (ihk (by omega))
                unfold x_ak at c64 ⊢
                rw [x_all_s]
                simp_all [am_bi]
              · skip
                refine w_iconst (v := 1) s131_95 rfl ?_
                refine w_goto s131_96 rfl ?_
                refine w_istore s131_100 rfl ?_
                show am_wp _ (_, [_, _, _, _, _, _, _], _) _ _
                refine w_iinc s131_102 rfl (nI_inc (k)) rfl ?_
                show am_wp _ (_, [_, _, _, _, _, _, _], _) _ _
                refine w_goto s131_105 rfl ?_
                refine am_wp_l (am_cons rfl (am_cons rfl (am_cons rfl (am_cons rfl (am_cons rfl (am_cons (am_si ?_) rfl)))))) (ihk (by omega))
                unfold x_ak at c64 ⊢
                rw [x_all_s]
                simp_all [am_bi]
theorem c132 {h : am_H} {cc : Nat → Nat} {aa : Nat → Nat → Int32} (hw : MW h cc aa) (iv : IV cc aa) (s : Int32) : am_ev 132 [.ref 27, .int s] h (mQ h (S_barred cc aa s)) := by
  have fr := mFr.rf h
  have n0 := iv.n0
  have n2 := iv.n2
  have n3 := iv.n3
  have n7 := iv.n7
  have n8 := iv.n8
  have n16 := iv.n16
  have n20 := iv.n20
  have n28 := iv.n28
  have n31 := iv.n31
  have n38 := iv.n38
  have n45 := iv.n45
  rcases x_lk s aa with cs | ⟨j, hj, rfl, cz⟩ | ⟨j, hj, rfl, cz⟩
  · skip
    skip
    show am_wp _ (_, [_, _, _], _) _ _
    refine w_aload_n s132_0 rfl ?_
    refine w_iload_n s132_1 rfl ?_
    refine w_callV1r s132_2 (hw 0 _ rfl) ow118 mc132_118 rfl rfl (c118a hw _ cs) ?_
    refine w_istore_n s132_5 rfl ?_
    show am_wp _ (_, [_, _, _], _) _ _
    refine w_iload_n s132_6 rfl ?_
    refine w_ifge s132_7 rfl  (fun c => absurd c (by decide)) (fun c7 => ?_)
    refine w_iload_n s132_10 rfl ?_
    refine w_goto s132_11 rfl ?_
    refine w_iret s132_19 rk132 ?_
    exact mq_end (by simp [S_barred, *] <;> first | rfl | exact ⟨rfl, rfl⟩ | exact ⟨rfl, rfl, rfl⟩) hw fr
  · skip
    have cs := x_in3 hj
    have hj2 := nI_clamp (show j < 2 ^ 31 by omega)
    show am_wp _ (_, [_, _, _], _) _ _
    refine w_aload_n s132_0 rfl ?_
    refine w_iload_n s132_1 rfl ?_
    refine w_callV1 s132_2 (hw 0 _ rfl) ow118 mc132_118 rfl rfl (c118b hw j hj cz) ?_
    rintro v h ⟨rfl, hw, fr2⟩
    replace fr := fr.tr fr2
    clear fr2
    show am_wp _ (_, _, Value.int (-3) :: _) _ _
    refine w_istore_n s132_5 rfl ?_
    show am_wp _ (_, [_, _, _], _) _ _
    refine w_iload_n s132_6 rfl ?_
    refine w_ifge s132_7 rfl  (fun c => absurd c (by decide)) (fun c7 => ?_)
    refine w_iload_n s132_10 rfl ?_
    refine w_goto s132_11 rfl ?_
    refine w_iret s132_19 rk132 ?_
    exact mq_end (by simp [S_barred, *] <;> first | rfl | exact ⟨rfl, rfl⟩ | exact ⟨rfl, rfl, rfl⟩) hw fr
  · skip
    have cs := x_in3 hj
    have hj2 := nI_clamp (show j < 2 ^ 31 by omega)
    obtain ⟨z, hz, ez⟩ : ∃ z, z ≤ 80 ∧ aa 13 j = nI z := (iv.sz j hj).resolve_left (fun e => cz (by rw [e]; decide))
    have hz2 := nI_clamp (show z < 2 ^ 31 by omega)
    have cz2 : ¬ nI z < 0 := nI_pos (by omega)
    show am_wp _ (_, [_, _, _], _) _ _
    refine w_aload_n s132_0 rfl ?_
    refine w_iload_n s132_1 rfl ?_
    refine w_callV1r s132_2 (hw 0 _ rfl) ow118 mc132_118 rfl rfl (c118c hw j hj cz) ?_
    refine w_istore_n s132_5 rfl ?_
    show am_wp _ (_, [_, _, _], _) _ _
    refine w_iload_n s132_6 rfl ?_
    refine w_ifge s132_7 rfl  (fun c7 => ?_) (fun c => absurd c (by decide))
    refine w_aload_n s132_14 rfl ?_
    refine w_iload_n s132_15 rfl ?_
    refine w_callV1r s132_16 (hw 0 _ rfl) ow131 mc132_131 rfl rfl (c131 hw n16 iv.bl j z hj hz ez) ?_
    refine w_iret s132_19 rk132 ?_
    exact mq_end (by simp [S_barred, *] <;> first | rfl | exact ⟨rfl, rfl⟩ | exact ⟨rfl, rfl, rfl⟩) hw fr
theorem c133 {h : am_H} {cc : Nat → Nat} {aa : Nat → Nat → Int32} (hw : MW h cc aa) (iv : IV cc aa) (k r : Int32) : am_ev 133 [.ref 27, .int k, .int r] h (mQ h (S_rate cc aa k r)) := by
  have fr := mFr.rf h
  have n0 := iv.n0
  have n2 := iv.n2
  have n3 := iv.n3
  have n7 := iv.n7
  have n8 := iv.n8
  have n16 := iv.n16
  have n20 := iv.n20
  have n28 := iv.n28
  have n31 := iv.n31
  have n38 := iv.n38
  have n45 := iv.n45
  show am_wp _ (_, [_, _, _, _], _) _ _
  refine w_iload_n s133_0 rfl ?_
  refine w_iconst (v := 0) s133_1 rfl ?_
  refine w_iconst (v := 5) s133_2 rfl ?_
  refine w_callS3r s133_3 mc133_103 rfl rfl (c103 _ _ _ _) ?_
  refine w_ifeqB s133_6 rfl  (fun c6 => ?_) (fun c6 => ?_)
  · skip
    refine w_iconst (v := (-1)) s133_20 rfl ?_
    refine w_iret s133_21 rk133 ?_
    exact mq_end (by simp [S_rate, *] <;> first | rfl | exact ⟨rfl, rfl⟩ | exact ⟨rfl, rfl, rfl⟩) hw fr
  · skip
    refine w_iload_n s133_9 rfl ?_
    refine w_iconst (v := 0) s133_10 rfl ?_
    refine w_sipush (v := 1000) s133_11 rfl ?_
    refine w_callS3r s133_14 mc133_103 rfl rfl (c103 _ _ _ _) ?_
    refine w_ifneB s133_17 rfl  (fun c17 => ?_) (fun c17 => ?_)
    · skip
      obtain ⟨k1, hk1, rfl⟩ := x_in_n (b := 5) c6 (by decide)
      have k1cl := nI_clamp (show k1 < 2 ^ 31 by omega)
      refine w_aload_n s133_22 rfl ?_
      refine w_getf s133_23 (hw 0 _ rfl) rfl ?_
      refine w_iload_n s133_26 rfl ?_
      refine w_ialdN (y := k1) s133_27 (hw 14 _ rfl) (by omega) (by decide) ?_
      refine w_istore_n s133_28 rfl ?_
      show am_wp _ (_, [_, _, _, _], _) _ _
      refine w_aload_n s133_29 rfl ?_
      refine w_getf s133_30 (hw 0 _ rfl) rfl ?_
      refine w_iload_n s133_33 rfl ?_
      refine w_iload_n s133_34 rfl ?_
      refine m_st19 (y := k1) s133_35 hw fr (by omega) (fun h hw fr => ?_)
      refine w_iload_n s133_36 rfl ?_
      refine w_iret s133_37 rk133 ?_
      exact mq_end (by simp [S_rate, *] <;> first | rfl | exact ⟨rfl, rfl⟩ | exact ⟨rfl, rfl, rfl⟩) hw fr
    · skip
      refine w_iconst (v := (-1)) s133_20 rfl ?_
      refine w_iret s133_21 rk133 ?_
      exact mq_end (by simp [S_rate, *] <;> first | rfl | exact ⟨rfl, rfl⟩ | exact ⟨rfl, rfl, rfl⟩) hw fr
theorem c134 {h : am_H} {cc : Nat → Nat} {aa : Nat → Nat → Int32} (hw : MW h cc aa) (n3 : cc 3 ≤ 10) (s : Int32) : am_rd 134 [.ref 27, .int s] h (.int (am_bi (x_arq (cc 3) s))) := by
  show am_wp _ (_, [_, _], _) _ _
  refine w_iload_n s134_0 rfl ?_
  refine w_iflt s134_1 rfl  (fun c1 => ?_) (fun c1 => ?_)
  · skip
    refine w_iconst (v := 0) s134_17 rfl ?_
    refine w_zret0 s134_18 rk134 ?_
    first | exact ⟨am_zo (x_arq_g c1), rfl⟩ | exact ⟨am_zz ((x_arq_s (by omega) c1).mp c10), rfl⟩ | exact ⟨am_zo (by simpa using (fun d => c10 ((x_arq_s (by omega) c1).mpr d))), rfl⟩
  · skip
    refine w_iload_n s134_4 rfl ?_
    refine w_aload_n s134_5 rfl ?_
    refine w_getf s134_6 (hw 0 _ rfl) rfl ?_
    refine w_ishr s134_9 rfl ?_
    refine w_ifne s134_10 rfl  (fun c10 => ?_) (fun c10 => ?_)
    · skip
      refine w_iconst (v := 0) s134_17 rfl ?_
      refine w_zret0 s134_18 rk134 ?_
      first | exact ⟨am_zo (x_arq_g c1), rfl⟩ | exact ⟨am_zz ((x_arq_s (by omega) c1).mp c10), rfl⟩ | exact ⟨am_zo (by simpa using (fun d => c10 ((x_arq_s (by omega) c1).mpr d))), rfl⟩
    · skip
      refine w_iconst (v := 1) s134_13 rfl ?_
      refine w_goto s134_14 rfl ?_
      refine w_zret1 s134_18 rk134 ?_
      first | exact ⟨am_zo (x_arq_g c1), rfl⟩ | exact ⟨am_zz ((x_arq_s (by omega) c1).mp c10), rfl⟩ | exact ⟨am_zo (by simpa using (fun d => c10 ((x_arq_s (by omega) c1).mpr d))), rfl⟩
theorem c137 {h : am_H} {cc : Nat → Nat} {aa : Nat → Nat → Int32} (hw : MW h cc aa) (iv : IV cc aa) (k s q t m : Int32) : am_ev 137 [.ref 27, .int k, .int s, .int q, .int t, .int m] h (mQ h (S_notice cc aa k s q t m)) := by
  have fr := mFr.rf h
  have n0 := iv.n0
  have n2 := iv.n2
  have n3 := iv.n3
  have n7 := iv.n7
  have n8 := iv.n8
  have n16 := iv.n16
  have n20 := iv.n20
  have n28 := iv.n28
  have n31 := iv.n31
  have n38 := iv.n38
  have n45 := iv.n45
  show am_wp _ (_, [_, _, _, _, _, _, _], _) _ _
  refine w_iload_n s137_0 rfl ?_
  refine w_iconst (v := 0) s137_1 rfl ?_
  refine w_iconst (v := 5) s137_2 rfl ?_
  refine w_callS3r s137_3 mc137_103 rfl rfl (c103 _ _ _ _) ?_
  refine w_ifeqB s137_6 rfl  (fun c6 => ?_) (fun c6 => ?_)
  · skip
    refine w_iconst (v := (-1)) s137_50 rfl ?_
    refine w_iret s137_51 rk137 ?_
    exact mq_end (by simp [S_notice, *] <;> first | rfl | exact ⟨rfl, rfl⟩ | exact ⟨rfl, rfl, rfl⟩) hw fr
  · skip
    refine w_iload_n s137_9 rfl ?_
    refine w_callS1r s137_10 mc137_117 rfl rfl (c117 _ _) ?_
    refine w_ifeqB s137_13 rfl  (fun c13 => ?_) (fun c13 => ?_)
    · skip
      refine w_iconst (v := (-1)) s137_50 rfl ?_
      refine w_iret s137_51 rk137 ?_
      exact mq_end (by simp [S_notice, *] <;> first | rfl | exact ⟨rfl, rfl⟩ | exact ⟨rfl, rfl, rfl⟩) hw fr
    · skip
      obtain ⟨s1, hs1, rfl⟩ := x_in_n (b := 3) c13 (by decide)
      have s1cl := nI_clamp (show s1 < 2 ^ 31 by omega)
      refine w_iload_n s137_16 rfl ?_
      refine w_ifeq s137_17 rfl  (fun c17 => ?_) (fun c17 => ?_)
      · skip
        refine w_iconst (v := (-1)) s137_50 rfl ?_
        refine w_iret s137_51 rk137 ?_
        exact mq_end (by simp [S_notice, *] <;> first | rfl | exact ⟨rfl, rfl⟩ | exact ⟨rfl, rfl, rfl⟩) hw fr
      · skip
        refine w_aload_n s137_20 rfl ?_
        refine w_iload_n s137_21 rfl ?_
        refine w_callV1r s137_22 (hw 0 _ rfl) ow134 mc137_134 rfl rfl (c134 hw n3 _) ?_
        refine w_ifeqB s137_25 rfl  (fun c25 => ?_) (fun c25 => ?_)
        · skip
          refine w_iconst (v := (-1)) s137_50 rfl ?_
          refine w_iret s137_51 rk137 ?_
          exact mq_end (by simp [S_notice, *] <;> first | rfl | exact ⟨rfl, rfl⟩ | exact ⟨rfl, rfl, rfl⟩) hw fr
        · skip
          refine w_iload s137_28 rfl ?_
          refine w_iconst (v := 1) s137_30 rfl ?_
          refine w_bipush (v := 9) s137_31 rfl ?_
          refine w_callS3r s137_33 mc137_103 rfl rfl (c103 _ _ _ _) ?_
          refine w_ifeqB s137_36 rfl  (fun c36 => ?_) (fun c36 => ?_)
          · skip
            refine w_iconst (v := (-1)) s137_50 rfl ?_
            refine w_iret s137_51 rk137 ?_
            exact mq_end (by simp [S_notice, *] <;> first | rfl | exact ⟨rfl, rfl⟩ | exact ⟨rfl, rfl, rfl⟩) hw fr
          · skip
            refine w_iload s137_39 rfl ?_
            refine w_iconst (v := 0) s137_41 rfl ?_
            refine w_ldc (v := 65535) s137_42 rfl ?_
            refine w_callS3r s137_44 mc137_103 rfl rfl (c103 _ _ _ _) ?_
            refine w_ifneB s137_47 rfl  (fun c47 => ?_) (fun c47 => ?_)
            · skip
              refine w_aload_n s137_52 rfl ?_
              refine w_getf s137_53 (hw 0 _ rfl) rfl ?_
              refine w_bipush (v := 40) s137_56 rfl ?_
              refine w_icmpneN (x := cc 20) (y := 40) s137_58 rfl (by omega) (by omega)  (fun c58 => ?_) (fun c58 => ?_)
              · skip
                refine w_aload_n s137_64 rfl ?_
                refine w_getf s137_65 (hw 0 _ rfl) rfl ?_
                refine w_iload_n s137_68 rfl ?_
                refine w_ialdN (y := s1) s137_69 (hw 9 _ rfl) (by omega) (by decide) ?_
                refine w_ifge s137_70 rfl  (fun c70 => ?_) (fun c70 => ?_)
                · skip
                  obtain ⟨z1, hz1, e1⟩ : ∃ z, z ≤ 80 ∧ aa 13 s1 = nI z := (iv.sz s1 (by omega)).resolve_left (fun e => Int32.not_lt.mpr c70 (by rw [e]; decide))
                  have z1n : ¬ nI z1 < 0 := nI_pos (by omega)
                  have z1c := nI_clamp (show z1 < 2 ^ 31 by omega)
                  refine w_aload_n s137_79 rfl ?_
                  refine w_iload_n s137_80 rfl ?_
                  refine w_callV1r s137_81 (hw 0 _ rfl) ow131 mc137_131 rfl rfl (c131 hw n16 iv.bl s1 z1 (by omega) hz1 e1) ?_
                  have hng := x_first_neg (p := x_bh cc aa s1) (n := z1) (by omega)
                  have hbi : x_bi cc aa s1 = x_first (x_bh cc aa s1) z1 := by unfold x_bi; rw [e1, show tn (nI z1) = z1 from z1c]
                  have hba : x_ba cc aa s1 = x_any (x_bh cc aa s1) z1 := by unfold x_ba; rw [e1, show tn (nI z1) = z1 from z1c]
                  rw [hbi]
                  refine w_iflt s137_84 rfl  (fun c84 => ?_) (fun c84 => ?_)
                  · skip
                    have hb : x_ba cc aa s1 = false := by rw [hba]; exact hng.mp c84
                    clear hba hbi hng
                    refine w_aload_n s137_90 rfl ?_
                    refine w_iload_n s137_91 rfl ?_
                    refine w_callV1r s137_92 (hw 0 _ rfl) ow128 mc137_128 rfl rfl (c128 hw s1 z1 (by omega) hz1 e1) ?_
                    refine w_istore s137_95 rfl ?_
                    show am_wp _ (_, [_, _, _, _, _, _, _], _) _ _
                    refine w_iload s137_97 rfl ?_
                    refine w_ifne s137_99 rfl  (fun c99 => ?_) (fun c99 => ?_)
                    · skip
                      refine w_aload_n s137_108 rfl ?_
                      refine w_getf s137_109 (hw 0 _ rfl) rfl ?_
                      refine w_aload_n s137_112 rfl ?_
                      refine w_getf s137_113 (hw 0 _ rfl) rfl ?_
                      refine w_iload_n s137_116 rfl ?_
                      refine m_st21 (y := cc 20) s137_117 hw fr (by omega) (fun h hw fr => ?_)
                      refine w_aload_n s137_118 rfl ?_
                      refine w_getf s137_119 (hw 0 _ rfl) rfl ?_
                      refine w_aload_n s137_122 rfl ?_
                      refine w_getf s137_123 (hw 0 _ rfl) rfl ?_
                      refine w_iload s137_126 rfl ?_
                      refine m_st22 (y := cc 20) s137_128 hw fr (by omega) (fun h hw fr => ?_)
                      refine w_aload_n s137_129 rfl ?_
                      refine w_getf s137_130 (hw 0 _ rfl) rfl ?_
                      refine w_aload_n s137_133 rfl ?_
                      refine w_getf s137_134 (hw 0 _ rfl) rfl ?_
                      refine w_iload_n s137_137 rfl ?_
                      refine m_st23 (y := cc 20) s137_138 hw fr (by omega) (fun h hw fr => ?_)
                      refine w_aload_n s137_139 rfl ?_
                      refine w_getf s137_140 (hw 0 _ rfl) rfl ?_
                      refine w_aload_n s137_143 rfl ?_
                      refine w_getf s137_144 (hw 0 _ rfl) rfl ?_
                      refine w_iload_n s137_147 rfl ?_
                      refine w_iconst (v := 1) s137_148 rfl ?_
                      refine w_callS2r s137_149 mc137_136 rfl rfl (c136 _ _ _) ?_
                      refine w_ifeqB s137_152 rfl  (fun c152 => ?_) (fun c152 => ?_)
                      · skip
                        refine w_iload s137_159 rfl ?_
                        refine m_st24 (y := cc 20) s137_161 hw fr (by omega) (fun h hw fr => ?_)
                        refine w_aload_n s137_162 rfl ?_
                        refine w_getf s137_163 (hw 0 _ rfl) rfl ?_
                        refine w_aload_n s137_166 rfl ?_
                        refine w_getf s137_167 (hw 0 _ rfl) rfl ?_
                        refine w_iload_n s137_170 rfl ?_
                        refine w_iconst (v := 4) s137_171 rfl ?_
                        refine w_callS2r s137_172 mc137_136 rfl rfl (c136 _ _ _) ?_
                        refine w_ifeqB s137_175 rfl  (fun c175 => ?_) (fun c175 => ?_)
                        · skip
                          refine w_iconst (v := 0) s137_183 rfl ?_
                          refine m_st25 (y := cc 20) s137_184 hw fr (by omega) (fun h hw fr => ?_)
                          refine w_aload_n s137_185 rfl ?_
                          refine w_getf s137_186 (hw 0 _ rfl) rfl ?_
                          refine w_aload_n s137_189 rfl ?_
                          refine w_getf s137_190 (hw 0 _ rfl) rfl ?_
                          refine w_aload_n s137_193 rfl ?_
                          refine w_getf s137_194 (hw 0 _ rfl) rfl ?_
                          refine m_st26 (y := cc 20) s137_197 hw fr (by omega) (fun h hw fr => ?_)
                          refine w_aload_n s137_198 rfl ?_
                          refine w_dup_r s137_199 ?_
                          refine w_getf s137_200 (hw 0 _ rfl) rfl ?_
                          refine w_iconst (v := 1) s137_203 rfl ?_
                          refine w_iaddN (x := cc 20) (y := 1) s137_204 ?_
                          refine m_pf20 (v := (cc 20 + 1)) s137_205 hw fr (fun h hw fr => ?_)
                          refine w_aload_n s137_208 rfl ?_
                          refine w_getf s137_209 (hw 0 _ rfl) rfl ?_
                          refine w_iconst (v := 1) s137_212 rfl ?_
                          refine w_isub s137_213 (nI_pred (cc 20)) ?_
                          refine w_iret s137_214 rk137 ?_
                          exact mq_end (by simp [S_notice, *] <;> first | rfl | exact ⟨rfl, rfl⟩ | exact ⟨rfl, rfl, rfl⟩) hw fr
                        · skip
                          refine w_iload s137_178 rfl ?_
                          refine w_goto s137_180 rfl ?_
                          refine m_st25 (y := cc 20) s137_184 hw fr (by omega) (fun h hw fr => ?_)
                          refine w_aload_n s137_185 rfl ?_
                          refine w_getf s137_186 (hw 0 _ rfl) rfl ?_
                          refine w_aload_n s137_189 rfl ?_
                          refine w_getf s137_190 (hw 0 _ rfl) rfl ?_
                          refine w_aload_n s137_193 rfl ?_
                          refine w_getf s137_194 (hw 0 _ rfl) rfl ?_
                          refine m_st26 (y := cc 20) s137_197 hw fr (by omega) (fun h hw fr => ?_)
                          refine w_aload_n s137_198 rfl ?_
                          refine w_dup_r s137_199 ?_
                          refine w_getf s137_200 (hw 0 _ rfl) rfl ?_
                          refine w_iconst (v := 1) s137_203 rfl ?_
                          refine w_iaddN (x := cc 20) (y := 1) s137_204 ?_
                          refine m_pf20 (v := (cc 20 + 1)) s137_205 hw fr (fun h hw fr => ?_)
                          refine w_aload_n s137_208 rfl ?_
                          refine w_getf s137_209 (hw 0 _ rfl) rfl ?_
                          refine w_iconst (v := 1) s137_212 rfl ?_
                          refine w_isub s137_213 (nI_pred (cc 20)) ?_
                          refine w_iret s137_214 rk137 ?_
                          exact mq_end (by simp [S_notice, *] <;> first | rfl | exact ⟨rfl, rfl⟩ | exact ⟨rfl, rfl, rfl⟩) hw fr
                      · skip
                        refine w_iconst (v := 3) s137_155 rfl ?_
                        refine w_goto s137_156 rfl ?_
                        refine m_st24 (y := cc 20) s137_161 hw fr (by omega) (fun h hw fr => ?_)
                        refine w_aload_n s137_162 rfl ?_
                        refine w_getf s137_163 (hw 0 _ rfl) rfl ?_
                        refine w_aload_n s137_166 rfl ?_
                        refine w_getf s137_167 (hw 0 _ rfl) rfl ?_
                        refine w_iload_n s137_170 rfl ?_
                        refine w_iconst (v := 4) s137_171 rfl ?_
                        refine w_callS2r s137_172 mc137_136 rfl rfl (c136 _ _ _) ?_
                        refine w_ifeqB s137_175 rfl  (fun c175 => ?_) (fun c175 => ?_)
                        · skip
                          refine w_iconst (v := 0) s137_183 rfl ?_
                          refine m_st25 (y := cc 20) s137_184 hw fr (by omega) (fun h hw fr => ?_)
                          refine w_aload_n s137_185 rfl ?_
                          refine w_getf s137_186 (hw 0 _ rfl) rfl ?_
                          refine w_aload_n s137_189 rfl ?_
                          refine w_getf s137_190 (hw 0 _ rfl) rfl ?_
                          refine w_aload_n s137_193 rfl ?_
                          refine w_getf s137_194 (hw 0 _ rfl) rfl ?_
                          refine m_st26 (y := cc 20) s137_197 hw fr (by omega) (fun h hw fr => ?_)
                          refine w_aload_n s137_198 rfl ?_
                          refine w_dup_r s137_199 ?_
                          refine w_getf s137_200 (hw 0 _ rfl) rfl ?_
                          refine w_iconst (v := 1) s137_203 rfl ?_
                          refine w_iaddN (x := cc 20) (y := 1) s137_204 ?_
                          refine m_pf20 (v := (cc 20 + 1)) s137_205 hw fr (fun h hw fr => ?_)
                          refine w_aload_n s137_208 rfl ?_
                          refine w_getf s137_209 (hw 0 _ rfl) rfl ?_
                          refine w_iconst (v := 1) s137_212 rfl ?_
                          refine w_isub s137_213 (nI_pred (cc 20)) ?_
                          refine w_iret s137_214 rk137 ?_
                          exact mq_end (by simp [S_notice, *] <;> first | rfl | exact ⟨rfl, rfl⟩ | exact ⟨rfl, rfl, rfl⟩) hw fr
                        · skip
                          refine w_iload s137_178 rfl ?_
                          refine w_goto s137_180 rfl ?_
                          refine m_st25 (y := cc 20) s137_184 hw fr (by omega) (fun h hw fr => ?_)
                          refine w_aload_n s137_185 rfl ?_
                          refine w_getf s137_186 (hw 0 _ rfl) rfl ?_
                          refine w_aload_n s137_189 rfl ?_
                          refine w_getf s137_190 (hw 0 _ rfl) rfl ?_
                          refine w_aload_n s137_193 rfl ?_
                          refine w_getf s137_194 (hw 0 _ rfl) rfl ?_
                          refine m_st26 (y := cc 20) s137_197 hw fr (by omega) (fun h hw fr => ?_)
                          refine w_aload_n s137_198 rfl ?_
                          refine w_dup_r s137_199 ?_
                          refine w_getf s137_200 (hw 0 _ rfl) rfl ?_
                          refine w_iconst (v := 1) s137_203 rfl ?_
                          refine w_iaddN (x := cc 20) (y := 1) s137_204 ?_
                          refine m_pf20 (v := (cc 20 + 1)) s137_205 hw fr (fun h hw fr => ?_)
                          refine w_aload_n s137_208 rfl ?_
                          refine w_getf s137_209 (hw 0 _ rfl) rfl ?_
                          refine w_iconst (v := 1) s137_212 rfl ?_
                          refine w_isub s137_213 (nI_pred (cc 20)) ?_
                          refine w_iret s137_214 rk137 ?_
                          exact mq_end (by simp [S_notice, *] <;> first | rfl | exact ⟨rfl, rfl⟩ | exact ⟨rfl, rfl, rfl⟩) hw fr
                    · skip
                      refine w_aload_n s137_102 rfl ?_
                      refine w_iconst (v := 5) s137_103 rfl ?_
                      refine w_callV1 s137_104 (hw 0 _ rfl) ow104 mc137_104 rfl rfl (c104 hw 5 (by decide)) ?_
                      rintro v h ⟨rfl, hw, fr2⟩
                      replace fr := fr.tr fr2
                      clear fr2
                      show am_wp _ (_, _, Value.int (-3) :: _) _ _
                      refine w_iret s137_107 rk137 ?_
                      exact mq_end (by simp [S_notice, *] <;> first | rfl | exact ⟨rfl, rfl⟩ | exact ⟨rfl, rfl, rfl⟩) hw fr
                  · skip
                    have hb : x_ba cc aa s1 = true := by
                      rw [hba]
                      cases c : x_any (x_bh cc aa s1) z1 with
                      | false => exact absurd (hng.mpr c) c84
                      | true => rfl
                    clear hba hbi hng
                    refine w_bipush (v := (-5)) s137_87 rfl ?_
                    refine w_iret s137_89 rk137 ?_
                    exact mq_end (by simp [S_notice, *] <;> first | rfl | exact ⟨rfl, rfl⟩ | exact ⟨rfl, rfl, rfl⟩) hw fr
                · skip
                  have c70b : aa 13 s1 < 0 := Int32.not_le.mp c70
                  refine w_aload_n s137_73 rfl ?_
                  refine w_iconst (v := 1) s137_74 rfl ?_
                  refine w_callV1 s137_75 (hw 0 _ rfl) ow104 mc137_104 rfl rfl (c104 hw 1 (by decide)) ?_
                  rintro v h ⟨rfl, hw, fr2⟩
                  replace fr := fr.tr fr2
                  clear fr2
                  show am_wp _ (_, _, Value.int (-3) :: _) _ _
                  refine w_iret s137_78 rk137 ?_
                  exact mq_end (by simp [S_notice, *] <;> first | rfl | exact ⟨rfl, rfl⟩ | exact ⟨rfl, rfl, rfl⟩) hw fr
              · skip
                refine w_bipush (v := (-2)) s137_61 rfl ?_
                refine w_iret s137_63 rk137 ?_
                exact mq_end (by simp [S_notice, *] <;> first | rfl | exact ⟨rfl, rfl⟩ | exact ⟨rfl, rfl, rfl⟩) hw fr
            · skip
              refine w_iconst (v := (-1)) s137_50 rfl ?_
              refine w_iret s137_51 rk137 ?_
              exact mq_end (by simp [S_notice, *] <;> first | rfl | exact ⟨rfl, rfl⟩ | exact ⟨rfl, rfl, rfl⟩) hw fr
