/-! the class's notices: a new one -/
theorem x_set_l1 (h : am_H) (c d e : am_C) : ((h ++ [c]) ++ [e]).set h.length d = (h ++ [d]) ++ [e] := by
  rw [List.set_append_left _ _ (by rw [List.length_append]; exact Nat.lt_succ_self _), x_set_last]
theorem x_set_l2 (h : am_H) (c d e f : am_C) : (((h ++ [c]) ++ [e]) ++ [f]).set h.length d = ((h ++ [d]) ++ [e]) ++ [f] := by
  rw [List.set_append_left _ _ (by simp only [List.length_append, List.length_singleton]; omega), x_set_l1]
theorem x_at_l1 (h : am_H) (c e : am_C) : ((h ++ [c]) ++ [e])[h.length]? = some c := (List.getElem?_append_left (by rw [List.length_append]; exact Nat.lt_succ_self _)).trans (x_at_last h c)
theorem x_at_l2 (h : am_H) (c e f : am_C) : (((h ++ [c]) ++ [e]) ++ [f])[h.length]? = some c := (List.getElem?_append_left (by simp only [List.length_append, List.length_singleton]; omega)).trans (x_at_l1 h c e)
theorem x_len1 (h : am_H) (c : am_C) : (h ++ [c]).length = h.length + 1 := by rw [List.length_append]; rfl
theorem x_len2 (h : am_H) (c e : am_C) : ((h ++ [c]) ++ [e]).length = h.length + 2 := by rw [x_len1, x_len1]
theorem x_at_l3 (h : am_H) (c e f : am_C) : (((h ++ [c]) ++ [e]) ++ [f])[h.length + 2]? = some f := x_len2 h c e ▸ x_at_last ((h ++ [c]) ++ [e]) f
theorem x_set_l3 (h : am_H) (c e f d : am_C) : (((h ++ [c]) ++ [e]) ++ [f]).set (h.length + 2) d = ((h ++ [c]) ++ [e]) ++ [d] := x_len2 h c e ▸ x_set_last ((h ++ [c]) ++ [e]) f d
theorem x_cn_new {cc : Nat → Nat} {aa : Nat → Nat → Int32} (iv : IV cc aa) (q : Int32) : ∀ m, m ≤ cc 31 → x_cn aa (nI (cc 20)) q m = 0 ∧ x_ld aa (nI (cc 20)) q m = -9
  | 0, _ => ⟨rfl, rfl⟩
  | m + 1, hm => by
    have ih := x_cn_new iv q m (by omega)
    have n20 := iv.n20
    have h3 := iv.yn m (by omega)
    have : x_cf aa (nI (cc 20)) q m = false := by
      unfold x_cf
      by_cases e : aa 32 m = nI (cc 20)
      · rw [e, x_ix_o (Nat.le_refl _) (by omega)] at h3
        cases h3
      · rw [decide_eq_false e, Bool.and_false, Bool.false_and]
    constructor
    · show x_cn aa (nI (cc 20)) q m + am_bi (x_cf aa (nI (cc 20)) q m) = 0
      rw [ih.1, this]
      rfl
    · show x_ldf aa (nI (cc 20)) q m (x_ld aa (nI (cc 20)) q m) = -9
      unfold x_ldf
      rw [this, if_neg (by decide), ih.2]
theorem c10 (h : am_H) (v0 v1 v2 v3 v4 v5 : Int32) : am_ev 10 [.ref h.length, .int v0, .int v1, .int v2, .int v3, .int v4, .int v5] (h ++ [.inr (5, [.int 0, .int 0, .int 0, .int 0, .int 0, .int 0, .null, .null, .int 0])]) (fun v h1 => v = none ∧ h1 = ((h ++ ([.inr (5, [.int v0, .int v1, .int v2, .int v3, .int v4, .int v5, .ref (h.length + 1), .ref (h.length + 2), .int 0])] : am_H)) ++ ([.inl (0, 10, .inl (fun _ => 0))] : am_H)) ++ ([.inl (0, 10, .inl (fun k => if k < 10 then -9 else 0))] : am_H)) := by
  show am_wp _ (_, [_, _, _, _, _, _, _], _) _ _
  refine w_aload_n s10_0 rfl ?_
  refine w_oini s10_1 ro10 rfl ?_
  refine w_aload_n s10_4 rfl ?_
  refine w_bipush (v := 10) s10_5 rfl ?_
  refine w_nwi (n := 10) s10_7 (by omega) ?_
  rw [x_len1]
  refine w_putf s10_9 (by decide +kernel) (x_at_l1 h _ _) rfl rfl ?_
  rw [x_set_l1]
  refine w_aload_n s10_12 rfl ?_
  refine w_bipush (v := 10) s10_13 rfl ?_
  refine w_nwi (n := 10) s10_15 (by omega) ?_
  rw [x_len2]
  refine w_putf s10_17 (by decide +kernel) (x_at_l2 h _ _ _) rfl rfl ?_
  rw [x_set_l2]
  refine w_aload_n s10_20 rfl ?_
  refine w_iconst (v := 0) s10_21 rfl ?_
  refine w_putf s10_22 (by decide +kernel) (x_at_l2 h _ _ _) rfl rfl ?_
  rw [x_set_l2]
  refine w_aload_n s10_25 rfl ?_
  refine w_iload_n s10_26 rfl ?_
  refine w_putf s10_27 (by decide +kernel) (x_at_l2 h _ _ _) rfl rfl ?_
  rw [x_set_l2]
  refine w_aload_n s10_30 rfl ?_
  refine w_iload_n s10_31 rfl ?_
  refine w_putf s10_32 (by decide +kernel) (x_at_l2 h _ _ _) rfl rfl ?_
  rw [x_set_l2]
  refine w_aload_n s10_35 rfl ?_
  refine w_iload_n s10_36 rfl ?_
  refine w_putf s10_37 (by decide +kernel) (x_at_l2 h _ _ _) rfl rfl ?_
  rw [x_set_l2]
  refine w_aload_n s10_40 rfl ?_
  refine w_iload s10_41 rfl ?_
  refine w_putf s10_43 (by decide +kernel) (x_at_l2 h _ _ _) rfl rfl ?_
  rw [x_set_l2]
  refine w_aload_n s10_46 rfl ?_
  refine w_iload s10_47 rfl ?_
  refine w_putf s10_49 (by decide +kernel) (x_at_l2 h _ _ _) rfl rfl ?_
  rw [x_set_l2]
  refine w_aload_n s10_52 rfl ?_
  refine w_iload s10_53 rfl ?_
  refine w_putf s10_55 (by decide +kernel) (x_at_l2 h _ _ _) rfl rfl ?_
  rw [x_set_l2]
  refine w_aload_n s10_58 rfl ?_
  refine w_getf s10_59 (x_at_l2 h _ _ _) rfl ?_
  refine w_bipush (v := (-9)) s10_62 rfl ?_
  refine w_callS2 s10_64 mc10_187 rfl rfl (c187 (x_at_l3 h _ _ _) (by decide) (by decide)) ?_
  rintro v h1 ⟨rfl, rfl⟩
  show am_wp _ (_, _, _) _ _
  rw [x_set_l3]
  refine w_vret s10_67 rk10 ?_
  exact ⟨rfl, rfl⟩
theorem x_add_no {h0 h : am_H} {a b : Nat} {cc : Nat → Nat} {aa : Nat → Nat → Int32} {P : x_P} {D : x_D} (hx : XL h0 a b h cc aa P D) (iv : IV cc aa) (hn : cc 20 ≤ 39) (v0 v1 v2 v3 v4 v5 : Int32) : am_ev 186 [.ref 6, .ref h.length] (((h ++ ([.inr (5, [.int v0, .int v1, .int v2, .int v3, .int v4, .int v5, .ref (h.length + 1), .ref (h.length + 2), .int 0])] : am_H)) ++ ([.inl (0, 10, .inl (fun _ => 0))] : am_H)) ++ ([.inl (0, 10, .inl (fun k => if k < 10 then -9 else 0))] : am_H)) (fun v h1 => v = some (.int 1) ∧ ∃ P2 D2, XL h0 (a + 1 + 1 + 1 + 1) (b + 9 + 10 + 10 + 600) h1 (uc cc 20 (cc 20 + 1)) (ua (ua (ua (ua (ua (ua (aa) 21 (upd (aa 21) (cc 20) v0)) 22 (upd (aa 22) (cc 20) v1)) 23 (upd (aa 23) (cc 20) v2)) 24 (upd (aa 24) (cc 20) v3)) 25 (upd (aa 25) (cc 20) v4)) 26 (upd (aa 26) (cc 20) v5)) P2 D2) := by
  have hcn : x_cnr (uc cc 20 (cc 20 + 1)) (ua (ua (ua (ua (ua (ua (aa) 21 (upd (aa 21) (cc 20) v0)) 22 (upd (aa 22) (cc 20) v1)) 23 (upd (aa 23) (cc 20) v2)) 24 (upd (aa 24) (cc 20) v3)) 25 (upd (aa 25) (cc 20) v4)) 26 (upd (aa 26) (cc 20) v5)) (cc 20) = fun _ => 0 := by
    funext q
    show (if q < 10 then x_cn aa (nI (cc 20)) (nI q) (cc 31) else 0) = 0
    rw [(x_cn_new iv (nI q) (cc 31) (Nat.le_refl _)).1]
    split <;> rfl
  have hld : x_ldr (uc cc 20 (cc 20 + 1)) (ua (ua (ua (ua (ua (ua (aa) 21 (upd (aa 21) (cc 20) v0)) 22 (upd (aa 22) (cc 20) v1)) 23 (upd (aa 23) (cc 20) v2)) 24 (upd (aa 24) (cc 20) v3)) 25 (upd (aa 25) (cc 20) v4)) 26 (upd (aa 26) (cc 20) v5)) (cc 20) = fun k => if k < 10 then -9 else 0 := by
    funext q
    show (if q < 10 then x_ld aa (nI (cc 20)) (nI q) (cc 31) else 0) = _
    rw [(x_cn_new iv (nI q) (cc 31) (Nat.le_refl _)).2]
  have h27 := iv.bn (cc 20) (Nat.le_refl _) (by omega)
  generalize ho : ((.inr (5, [.int v0, .int v1, .int v2, .int v3, .int v4, .int v5, .ref (h.length + 1), .ref (h.length + 2), .int 0]) : am_C)) = o
  generalize hc1 : ((.inl (0, 10, .inl (fun _ => 0)) : am_C)) = c1
  generalize hc2 : ((.inl (0, 10, .inl (fun k => if k < 10 then -9 else 0)) : am_C)) = c2
  have g := ((hx.1.nw 2 (cc 20) o).nw 6 (cc 20) c1).nw 7 (cc 20) c2
  have e0 : am_sl o = 9 := by rw [← ho]; rfl
  have e1 : am_sl c1 = 10 := by rw [← hc1]; rfl
  have e2 : am_sl c2 = 10 := by rw [← hc2]; rfl
  rw [e0, e1, e2] at g
  have p6 : (u2 (u2 (u2 P 2 (cc 20) h.length) 6 (cc 20) (h ++ [o]).length) 7 (cc 20) ((h ++ [o]) ++ [c1]).length) 6 (cc 20) = h.length + 1 := by rw [u2_k _ _ (by decide), u2_s, x_len1]
  have p7 : (u2 (u2 (u2 P 2 (cc 20) h.length) 6 (cc 20) (h ++ [o]).length) 7 (cc 20) ((h ++ [o]) ++ [c1]).length) 7 (cc 20) = h.length + 2 := by rw [u2_s, x_len2]
  have hpo : ∀ k i, ¬ (k = 2 ∧ i = cc 20) → ¬ (k = 6 ∧ i = cc 20) → ¬ (k = 7 ∧ i = cc 20) → (u2 (u2 (u2 P 2 (cc 20) h.length) 6 (cc 20) (h ++ [o]).length) 7 (cc 20) ((h ++ [o]) ++ [c1]).length) k i = P k i := by
    intro k i n1 n2 n3
    show (if k = 7 ∧ i = cc 20 then _ else if k = 6 ∧ i = cc 20 then _ else if k = 2 ∧ i = cc 20 then _ else P k i) = P k i
    rw [if_neg n3, if_neg n2, if_neg n1]
  have hco : ∀ k i, ¬ (k = 2 ∧ i = cc 20) → ¬ (k = 6 ∧ i = cc 20) → ¬ (k = 7 ∧ i = cc 20) → u2 (u2 (u2 (xcell cc aa P D) 2 (cc 20) o) 6 (cc 20) c1) 7 (cc 20) c2 k i = xcell cc aa P D k i := by
    intro k i n1 n2 n3
    show (if k = 7 ∧ i = cc 20 then _ else if k = 6 ∧ i = cc 20 then _ else if k = 2 ∧ i = cc 20 then _ else xcell cc aa P D k i) = _
    rw [if_neg n3, if_neg n2, if_neg n1]
  have w := x_add (cc := cc) (cc' := uc cc 20 (cc 20 + 1)) (aa' := ua (ua (ua (ua (ua (ua (aa) 21 (upd (aa 21) (cc 20) v0)) 22 (upd (aa 22) (cc 20) v1)) 23 (upd (aa 23) (cc 20) v2)) 24 (upd (aa 24) (cc 20) v3)) 25 (upd (aa 25) (cc 20) v4)) 26 (upd (aa 26) (cc 20) v5)) (D := D) (q := 2) (n := cc 20) (ci := 5) (fs := [.int v0, .int v1, .int v2, .int v3, .int v4, .int v5, .ref (h.length + 1), .ref (h.length + 2), .int 0]) g (by decide) (fun k i h1 h2 => by rw [hpo k i (by omega) (by omega) (by omega)]; exact hx.2.1 k i h1 h2) hx.2.2.1 rfl (by omega) (fun i hi => Or.inr (Or.inr (Or.inr hi))) (fun i hi => ?_) (fun i hi h8 => ⟨Or.inr (Or.inr (Or.inr ⟨hi, h8⟩)), ?_⟩) (fun j hj => ⟨Or.inr (Or.inr (Or.inr hj)), ?_⟩) (Or.inr (Or.inr (Or.inl ⟨rfl, rfl⟩))) ?_ (by decide) rfl (fun i hi6 hi => ?_) (fun D' k i lk k8 => ?_) (fun P2 D2 k i hP2 hD2 lk k8 k11 => ?_) (x_tab_cg hx.2.2.2 rfl rfl rfl)
  · rw [u2_k _ _ (show (2 : Nat) ≠ 7 by decide), u2_k _ _ (show (2 : Nat) ≠ 6 by decide), u2_s] at w
    exact am_wp.mp w (fun v h' ⟨e, P', D', _, hx'⟩ => ⟨e, P', D', hx'⟩)
  · rw [hco 11 i (by omega) (by omega) (by omega)]
    show Sum.inr (0, [Value.int (D.1 i), Value.ref (if D.2.1 i = 0 then 1 else P 8 i), Value.int (nI (xn cc i))]) = Sum.inr (0, [Value.int (D.1 i), Value.ref (if D.2.1 i = 0 then 1 else (u2 (u2 (u2 P 2 (cc 20) h.length) 6 (cc 20) (h ++ [o]).length) 7 (cc 20) ((h ++ [o]) ++ [c1]).length) 8 i), Value.int (nI (xn cc i))])
    rw [hpo 8 i (by omega) (by omega) (by omega)]
  · rw [hco 8 i (by omega) (by omega) (by omega)]
    show Sum.inl (3, D.2.1 i, Sum.inr (Sum.inr (Sum.inr (Sum.inr (x_els cc P i))))) = _
    rw [show x_els cc P i = x_els cc (u2 (u2 (u2 P 2 (cc 20) h.length) 6 (cc 20) (h ++ [o]).length) 7 (cc 20) ((h ++ [o]) ++ [c1]).length) i from ?_]
    funext j
    unfold x_els
    by_cases d : j < xn cc i
    · rw [if_pos d, if_pos d, hpo i j (fun e => by rw [e.1] at d; have d : j < cc 20 := d; omega) (by omega) (by omega)]
    · rw [if_neg d, if_neg d]
  · rw [hco 2 j (by omega) (by omega) (by omega)]
    exact ⟨5, _, rfl, by decide⟩
  · rw [u2_k _ _ (show (2 : Nat) ≠ 7 by decide), u2_k _ _ (show (2 : Nat) ≠ 6 by decide), u2_s, ← ho]
  · exact match i, hi6, hi with | 0, _, _ => rfl | 1, _, _ => rfl | 2, _, hi => absurd rfl hi | 3, _, _ => rfl | 4, _, _ => rfl | 5, _, _ => rfl | _ + 6, h6, _ => absurd h6 (by omega)
  · exact match k, lk, k8 with | 0, l, _ => Or.inr (Or.inr (Or.inr l)) | 1, l, _ => Or.inr (Or.inr (Or.inr l)) | 2, l, _ => (Nat.lt_succ_iff_lt_or_eq.mp (show i < cc 20 + 1 from l)).elim (fun l => Or.inr (Or.inr (Or.inr l))) (fun e => Or.inr (Or.inr (Or.inl ⟨rfl, e⟩))) | 3, l, _ => Or.inr (Or.inr (Or.inr l)) | 4, l, _ => Or.inr (Or.inr (Or.inr l)) | 5, l, _ => Or.inr (Or.inr (Or.inr l)) | 6, l, _ => (Nat.lt_succ_iff_lt_or_eq.mp (show i < cc 20 + 1 from l)).elim (fun l => Or.inr (Or.inr (Or.inr l))) (fun e => Or.inr (Or.inl ⟨rfl, e⟩)) | 7, l, _ => (Nat.lt_succ_iff_lt_or_eq.mp (show i < cc 20 + 1 from l)).elim (fun l => Or.inr (Or.inr (Or.inr l))) (fun e => Or.inl ⟨rfl, e⟩) | 8, _, e => absurd rfl e | 9, l, _ => Or.inr (Or.inr (Or.inr l)) | 10, l, _ => Or.inr (Or.inr (Or.inr l)) | 11, l, _ => Or.inr (Or.inr (Or.inr l)) | 12, l, _ => Or.inr (Or.inr (Or.inr l)) | 13, l, _ => Or.inr (Or.inr (Or.inr l)) | 14, l, _ => Or.inr (Or.inr (Or.inr l)) | 15, l, _ => Or.inr (Or.inr (Or.inr l)) | 16, l, _ => Or.inr (Or.inr (Or.inr l)) | 17, l, _ => Or.inr (Or.inr (Or.inr l)) | 18, l, _ => Or.inr (Or.inr (Or.inr l)) | 19, l, _ => Or.inr (Or.inr (Or.inr l)) | 20, l, _ => Or.inr (Or.inr (Or.inr l)) | 21, l, _ => Or.inr (Or.inr (Or.inr l)) | _ + 22, l, _ => Or.inr (Or.inr (Or.inr l))
  · by_cases n2 : k = 2 ∧ i = cc 20
    · obtain ⟨rfl, rfl⟩ := n2
      rw [u2_k _ _ (show (2 : Nat) ≠ 7 by decide), u2_k _ _ (show (2 : Nat) ≠ 6 by decide), u2_s, ← ho]
      show Sum.inr (5, [Value.int (upd (aa 21) (cc 20) v0 (cc 20)), Value.int (upd (aa 22) (cc 20) v1 (cc 20)), Value.int (upd (aa 23) (cc 20) v2 (cc 20)), Value.int (upd (aa 24) (cc 20) v3 (cc 20)), Value.int (upd (aa 25) (cc 20) v4 (cc 20)), Value.int (upd (aa 26) (cc 20) v5 (cc 20)), Value.ref (P2 6 (cc 20)), Value.ref (P2 7 (cc 20)), Value.int (aa 27 (cc 20))]) = _
      simp only [pk_us]
      rw [hP2 6 _ (by decide), hP2 7 _ (by decide), p6, p7, h27]
    · by_cases n6 : k = 6 ∧ i = cc 20
      · obtain ⟨rfl, rfl⟩ := n6
        rw [u2_k _ _ (show (6 : Nat) ≠ 7 by decide), u2_s, ← hc1]
        show Sum.inl (0, 10, Sum.inl (x_cnr _ _ (cc 20))) = _
        rw [hcn]
      · by_cases n7 : k = 7 ∧ i = cc 20
        · obtain ⟨rfl, rfl⟩ := n7
          rw [u2_s, ← hc2]
          show Sum.inl (0, 10, Sum.inl (x_ldr _ _ (cc 20))) = _
          rw [hld]
        · rw [hco k i n2 n6 n7]
          have h6 : ¬ i = cc 20 → P2 6 i = P 6 i := fun e => by rw [hP2 6 i (by decide), hpo 6 i (by omega) (by omega) (by omega)]
          have h7 : ¬ i = cc 20 → P2 7 i = P 7 i := fun e => by rw [hP2 7 i (by decide), hpo 7 i (by omega) (by omega) (by omega)]
          have h9 : P2 9 0 = P 9 0 := by rw [hP2 9 0 (by decide), hpo 9 0 (by omega) (by omega) (by omega)]
          exact match k, lk, k8, k11, n2 with | 0, _, _, _, _ => rfl | 1, _, _, _, _ => rfl | 2, l, _, _, n2 => by have hni : ¬ i = cc 20 := fun e => n2 ⟨rfl, e⟩; show Sum.inr (5, [Value.int (upd (aa 21) (cc 20) v0 i), Value.int (upd (aa 22) (cc 20) v1 i), Value.int (upd (aa 23) (cc 20) v2 i), Value.int (upd (aa 24) (cc 20) v3 i), Value.int (upd (aa 25) (cc 20) v4 i), Value.int (upd (aa 26) (cc 20) v5 i), Value.ref (P2 6 i), Value.ref (P2 7 i), Value.int (aa 27 i)]) = _; simp only [x_up_n hni]; rw [h6 hni, h7 hni]; rfl | 3, _, _, _, _ => rfl | 4, _, _, _, _ => rfl | 5, _, _, _, _ => rfl | 6, _, _, _, _ => rfl | 7, _, _, _, _ => rfl | 8, _, e, _, _ => absurd rfl e | 9, _, _, _, _ => by show Sum.inl (0, D2.2.2.2.1, Sum.inl D2.2.2.2.2) = _; rw [hD2]; rfl | 10, _, _, _, _ => rfl | 11, _, _, e, _ => absurd rfl e | 12, _, _, _, _ => rfl | 13, _, _, _, _ => rfl | 14, _, _, _, _ => rfl | 15, _, _, _, _ => rfl | 16, _, _, _, _ => rfl | 17, _, _, _, _ => rfl | 18, _, _, _, _ => by show Sum.inr (6, [Value.ref 23, Value.int (nI (cc 45)), Value.ref (P2 9 0), Value.int (nI D2.2.2.1)]) = _; rw [h9, hD2]; rfl | 19, _, _, _, _ => rfl | 20, _, _, _, _ => rfl | 21, _, _, _, _ => rfl | n + 22, l, _, _, _ => absurd l.1 (x_not22 n)
theorem x_bi_ba {cc : Nat → Nat} {aa : Nat → Nat → Int32} {s : Nat} (hz : tn (aa 13 s) < 2 ^ 31) : x_ba cc aa s = !decide (x_bi cc aa s = -9) := by
  unfold x_ba x_bi
  cases f : x_any (x_bh cc aa s) (tn (aa 13 s)) with
  | false => rw [x_first_f f]; rfl
  | true =>
    obtain ⟨i, i1, i2, i3⟩ := x_any_i f
    rw [x_first_t i3 i2 _ i1, decide_eq_false]
    · rfl
    · intro e
      have h1 := congrArg Int32.toInt e
      rw [nI_toInt (by omega), show (-9 : Int32).toInt = -9 from rfl] at h1
      omega
theorem c54 {h : am_H} {cc : Nat → Nat} {aa : Nat → Nat → Int32} {P : x_P} {D : x_D} (hx : XL h 0 0 h cc aa P D) (iv : IV cc aa) (k s q t m : Int32) : am_ev 54 [.ref 3, .int k, .int s, .int q, .int t, .int m] h (xQ h (S_notice cc aa k s q t m)) := by
  have n0 := iv.n0
  have n2 := iv.n2
  have n3 := iv.n3
  have n7 := iv.n7
  have n8 := iv.n8
  have n16 := iv.n16
  have n20 := iv.n20
  have n28 := iv.n28
  have n31 := iv.n31
  have n38 := iv.n38
  have n45 := iv.n45
  show am_wp _ (_, [_, _, _, _, _, _, _, _, _, _], _) _ _
  refine w_iload_n s54_0 rfl ?_
  refine w_callS1r s54_1 mc54_81 rfl rfl (c81 _ _) ?_
  refine w_ifeqB s54_4 rfl  (fun c4 => ?_) (fun c4 => ?_)
  · skip
    refine w_iconst (v := (-1)) s54_48 rfl ?_
    refine w_iret s54_49 rk54 ?_
    exact xq_end (by decide) (by decide) (by simp [S_notice, S_meets, tn, *] <;> first | rfl | exact ⟨rfl, rfl⟩ | exact ⟨rfl, rfl, rfl⟩) hx
  · skip
    refine w_iload_n s54_7 rfl ?_
    refine w_callS1r s54_8 mc54_80 rfl rfl (c80 _ _) ?_
    refine w_ifeqB s54_11 rfl  (fun c11 => ?_) (fun c11 => ?_)
    · skip
      refine w_iconst (v := (-1)) s54_48 rfl ?_
      refine w_iret s54_49 rk54 ?_
      exact xq_end (by decide) (by decide) (by simp [S_notice, S_meets, tn, *] <;> first | rfl | exact ⟨rfl, rfl⟩ | exact ⟨rfl, rfl, rfl⟩) hx
    · skip
      obtain ⟨j, hj, rfl⟩ := x_in_n (b := 3) c11 (by decide)
      have jcl := nI_clamp (show j < 2 ^ 31 by omega)
      refine w_aload_n s54_14 rfl ?_
      refine w_iload_n s54_15 rfl ?_
      refine w_callV1r s54_16 hx.o ow86 mc54_86 rfl rfl (c86 hx iv _) ?_
      refine w_ifeqB s54_19 rfl  (fun c19 => ?_) (fun c19 => ?_)
      · skip
        refine w_iconst (v := (-1)) s54_48 rfl ?_
        refine w_iret s54_49 rk54 ?_
        exact xq_end (by decide) (by decide) (by simp [S_notice, S_meets, tn, *] <;> first | rfl | exact ⟨rfl, rfl⟩ | exact ⟨rfl, rfl, rfl⟩) hx
      · skip
        refine w_iload_n s54_22 rfl ?_
        refine w_ifeq s54_23 rfl  (fun c23 => ?_) (fun c23 => ?_)
        · skip
          refine w_iconst (v := (-1)) s54_48 rfl ?_
          refine w_iret s54_49 rk54 ?_
          exact xq_end (by decide) (by decide) (by simp [S_notice, S_meets, tn, *] <;> first | rfl | exact ⟨rfl, rfl⟩ | exact ⟨rfl, rfl, rfl⟩) hx
        · skip
          refine w_iload s54_26 rfl ?_
          refine w_iconst (v := 1) s54_28 rfl ?_
          refine w_bipush (v := 9) s54_29 rfl ?_
          refine w_callS3r s54_31 mc54_77 rfl rfl (c77 _ _ _ _) ?_
          refine w_ifeqB s54_34 rfl  (fun c34 => ?_) (fun c34 => ?_)
          · skip
            refine w_iconst (v := (-1)) s54_48 rfl ?_
            refine w_iret s54_49 rk54 ?_
            exact xq_end (by decide) (by decide) (by simp [S_notice, S_meets, tn, *] <;> first | rfl | exact ⟨rfl, rfl⟩ | exact ⟨rfl, rfl, rfl⟩) hx
          · skip
            refine w_iload s54_37 rfl ?_
            refine w_iconst (v := 0) s54_39 rfl ?_
            refine w_ldc (v := 65535) s54_40 rfl ?_
            refine w_callS3r s54_42 mc54_77 rfl rfl (c77 _ _ _ _) ?_
            refine w_ifneB s54_45 rfl  (fun c45 => ?_) (fun c45 => ?_)
            · skip
              refine w_aload_n s54_50 rfl ?_
              refine w_getf s54_51 hx.o rfl ?_
              refine w_callV0r s54_54 (hx.l 2 (by decide)) ow181 mc54_181 rfl rfl (hx.size 2 (by decide)) ?_
              refine w_bipush (v := 40) s54_57 rfl ?_
              refine w_icmpltN (x := cc 20) (y := 40) s54_59 rfl (by omega) (by omega)  (fun c59 => ?_) (fun c59 => ?_)
              · skip
                have e10 : ¬ cc 20 = 40 := by omega
                refine w_aload_n s54_65 rfl ?_
                refine w_getf s54_66 hx.o rfl ?_
                refine w_iload_n s54_69 rfl ?_
                refine w_aald (v := .ref (11 + 2 * (j))) s54_70 hx.sa (Or.inr rfl) (am_inb (show (j) < 4 by omega) (by decide)) (by rw [nI_clamp (show (j) < 2 ^ 31 by omega), if_pos (show (j) < 4 by omega)]; rfl) ?_
                refine w_astore s54_71 rfl ?_
                show am_wp _ (_, [_, _, _, _, _, _, _, _, _, _], _) _ _
                refine w_aload s54_73 rfl ?_
                refine w_callV0r s54_75 (hx.sh (j) (by omega)) ow24 mc54_24 rfl rfl (c24 hx iv (j) (by omega)) ?_
                refine w_ifeqB s54_78 rfl  (fun c78 => ?_) (fun c78 => ?_)
                · skip
                  have c78x := of_decide_eq_false c78
                  obtain ⟨z, hz, ez⟩ := (iv.sz j (by omega)).resolve_left (fun e => c78x (by rw [e]; decide))
                  have zcl := nI_clamp (show z < 2 ^ 31 by omega)
                  have zpos : ¬ nI z < 0 := nI_pos (by omega)
                  have hba := x_bi_ba (cc := cc) (aa := aa) (s := j) (show tn (aa 13 j) < 2 ^ 31 by rw [ez]; show (nI z).toNatClampNeg < _; omega)
                  refine w_aload_n s54_87 rfl ?_
                  refine w_getf s54_88 hx.o rfl ?_
                  refine w_aload s54_91 rfl ?_
                  refine w_callV1r s54_93 hx.bp ow2 mc54_2 rfl rfl (c2 hx iv (j) z (by omega) hz ez) ?_
                  refine w_bipush (v := (-9)) s54_96 rfl ?_
                  refine w_icmpeq s54_98 rfl  (fun c98 => ?_) (fun c98 => ?_)
                  · skip
                    rw [decide_eq_true c98] at hba
                    replace hba : x_ba cc aa j = false := hba
                    refine w_aload s54_104 rfl ?_
                    refine w_callV0r s54_106 (hx.sh (j) (by omega)) ow30 mc54_30 rfl rfl (c30 hx iv (j) z (by omega) hz ez) ?_
                    refine w_istore s54_109 rfl ?_
                    show am_wp _ (_, [_, _, _, _, _, _, _, _, _, _], _) _ _
                    refine w_iload s54_111 rfl ?_
                    refine w_ifne s54_113 rfl  (fun c113 => ?_) (fun c113 => ?_)
                    · skip
                      refine w_iload_n s54_122 rfl ?_
                      refine w_iconst (v := 1) s54_123 rfl ?_
                      refine w_callS2r s54_124 mc54_87 rfl rfl (c87 _ _ (by first | decide | assumption) _) ?_
                      refine w_ifeqB s54_127 rfl  (fun c127 => ?_) (fun c127 => ?_)
                      · skip
                        refine w_iload s54_134 rfl ?_
                        refine w_istore s54_136 rfl ?_
                        show am_wp _ (_, [_, _, _, _, _, _, _, _, _, _], _) _ _
                        refine w_iload_n s54_138 rfl ?_
                        refine w_iconst (v := 4) s54_139 rfl ?_
                        refine w_callS2r s54_140 mc54_87 rfl rfl (c87 _ _ (by first | decide | assumption) _) ?_
                        refine w_ifeqB s54_143 rfl  (fun c143 => ?_) (fun c143 => ?_)
                        · skip
                          refine w_iconst (v := 0) s54_151 rfl ?_
                          refine w_istore s54_152 rfl ?_
                          show am_wp _ (_, [_, _, _, _, _, _, _, _, _, _], _) _ _
                          refine w_aload_n s54_154 rfl ?_
                          refine w_getf s54_155 hx.o rfl ?_
                          refine w_new s54_158 rfl ?_
                          refine w_dup_r s54_161 ?_
                          refine w_iload_n s54_162 rfl ?_
                          refine w_iload s54_163 rfl ?_
                          refine w_iload_n s54_165 rfl ?_
                          refine w_iload s54_166 rfl ?_
                          refine w_iload s54_168 rfl ?_
                          refine w_aload_n s54_170 rfl ?_
                          refine w_getf s54_171 ((List.getElem?_append_left (x_lt (hx.o))).trans (hx.o)) rfl ?_
                          refine w_callI6 s54_174 mc54_10 rfl rfl (c10 h _ _ _ _ _ _) ?_
                          rintro v h1 ⟨rfl, rfl⟩
                          show am_wp _ (_, _, _) _ _
                          refine w_callV1 s54_177 ((List.getElem?_append_left (by have := x_lt (hx.l 2 (by decide)); simp only [List.length_append]; omega)).trans ((List.getElem?_append_left (by have := x_lt (hx.l 2 (by decide)); simp only [List.length_append]; omega)).trans ((List.getElem?_append_left (x_lt (hx.l 2 (by decide)))).trans (hx.l 2 (by decide))))) ow186 mc54_186 rfl rfl (x_add_no hx iv (by omega) _ _ _ _ _ _) ?_
                          rintro v h ⟨rfl, P, D, hx⟩
                          show am_wp _ (_, _, Value.int 1 :: _) _ _
                          refine w_pop_i s54_180 ?_
                          refine w_aload_n s54_181 rfl ?_
                          refine w_getf s54_182 hx.o rfl ?_
                          refine w_callV0r s54_185 (hx.l 2 (by decide)) ow181 mc54_181 rfl rfl (hx.size 2 (by decide)) ?_
                          refine w_iconst (v := 1) s54_188 rfl ?_
                          refine w_isub s54_189 (nI_pred (cc 20)) ?_
                          refine w_iret s54_190 rk54 ?_
                          exact xq_end (by decide) (by decide) (by simp [S_notice, S_meets, tn, *] <;> first | rfl | exact ⟨rfl, rfl⟩ | exact ⟨rfl, rfl, rfl⟩) hx
                        · skip
                          refine w_iload s54_146 rfl ?_
                          refine w_goto s54_148 rfl ?_
                          refine w_istore s54_152 rfl ?_
                          show am_wp _ (_, [_, _, _, _, _, _, _, _, _, _], _) _ _
                          refine w_aload_n s54_154 rfl ?_
                          refine w_getf s54_155 hx.o rfl ?_
                          refine w_new s54_158 rfl ?_
                          refine w_dup_r s54_161 ?_
                          refine w_iload_n s54_162 rfl ?_
                          refine w_iload s54_163 rfl ?_
                          refine w_iload_n s54_165 rfl ?_
                          refine w_iload s54_166 rfl ?_
                          refine w_iload s54_168 rfl ?_
                          refine w_aload_n s54_170 rfl ?_
                          refine w_getf s54_171 ((List.getElem?_append_left (x_lt (hx.o))).trans (hx.o)) rfl ?_
                          refine w_callI6 s54_174 mc54_10 rfl rfl (c10 h _ _ _ _ _ _) ?_
                          rintro v h1 ⟨rfl, rfl⟩
                          show am_wp _ (_, _, _) _ _
                          refine w_callV1 s54_177 ((List.getElem?_append_left (by have := x_lt (hx.l 2 (by decide)); simp only [List.length_append]; omega)).trans ((List.getElem?_append_left (by have := x_lt (hx.l 2 (by decide)); simp only [List.length_append]; omega)).trans ((List.getElem?_append_left (x_lt (hx.l 2 (by decide)))).trans (hx.l 2 (by decide))))) ow186 mc54_186 rfl rfl (x_add_no hx iv (by omega) _ _ _ _ _ _) ?_
                          rintro v h ⟨rfl, P, D, hx⟩
                          show am_wp _ (_, _, Value.int 1 :: _) _ _
                          refine w_pop_i s54_180 ?_
                          refine w_aload_n s54_181 rfl ?_
                          refine w_getf s54_182 hx.o rfl ?_
                          refine w_callV0r s54_185 (hx.l 2 (by decide)) ow181 mc54_181 rfl rfl (hx.size 2 (by decide)) ?_
                          refine w_iconst (v := 1) s54_188 rfl ?_
                          refine w_isub s54_189 (nI_pred (cc 20)) ?_
                          refine w_iret s54_190 rk54 ?_
                          exact xq_end (by decide) (by decide) (by simp [S_notice, S_meets, tn, *] <;> first | rfl | exact ⟨rfl, rfl⟩ | exact ⟨rfl, rfl, rfl⟩) hx
                      · skip
                        refine w_iconst (v := 3) s54_130 rfl ?_
                        refine w_goto s54_131 rfl ?_
                        refine w_istore s54_136 rfl ?_
                        show am_wp _ (_, [_, _, _, _, _, _, _, _, _, _], _) _ _
                        refine w_iload_n s54_138 rfl ?_
                        refine w_iconst (v := 4) s54_139 rfl ?_
                        refine w_callS2r s54_140 mc54_87 rfl rfl (c87 _ _ (by first | decide | assumption) _) ?_
                        refine w_ifeqB s54_143 rfl  (fun c143 => ?_) (fun c143 => ?_)
                        · skip
                          refine w_iconst (v := 0) s54_151 rfl ?_
                          refine w_istore s54_152 rfl ?_
                          show am_wp _ (_, [_, _, _, _, _, _, _, _, _, _], _) _ _
                          refine w_aload_n s54_154 rfl ?_
                          refine w_getf s54_155 hx.o rfl ?_
                          refine w_new s54_158 rfl ?_
                          refine w_dup_r s54_161 ?_
                          refine w_iload_n s54_162 rfl ?_
                          refine w_iload s54_163 rfl ?_
                          refine w_iload_n s54_165 rfl ?_
                          refine w_iload s54_166 rfl ?_
                          refine w_iload s54_168 rfl ?_
                          refine w_aload_n s54_170 rfl ?_
                          refine w_getf s54_171 ((List.getElem?_append_left (x_lt (hx.o))).trans (hx.o)) rfl ?_
                          refine w_callI6 s54_174 mc54_10 rfl rfl (c10 h _ _ _ _ _ _) ?_
                          rintro v h1 ⟨rfl, rfl⟩
                          show am_wp _ (_, _, _) _ _
                          refine w_callV1 s54_177 ((List.getElem?_append_left (by have := x_lt (hx.l 2 (by decide)); simp only [List.length_append]; omega)).trans ((List.getElem?_append_left (by have := x_lt (hx.l 2 (by decide)); simp only [List.length_append]; omega)).trans ((List.getElem?_append_left (x_lt (hx.l 2 (by decide)))).trans (hx.l 2 (by decide))))) ow186 mc54_186 rfl rfl (x_add_no hx iv (by omega) _ _ _ _ _ _) ?_
                          rintro v h ⟨rfl, P, D, hx⟩
                          show am_wp _ (_, _, Value.int 1 :: _) _ _
                          refine w_pop_i s54_180 ?_
                          refine w_aload_n s54_181 rfl ?_
                          refine w_getf s54_182 hx.o rfl ?_
                          refine w_callV0r s54_185 (hx.l 2 (by decide)) ow181 mc54_181 rfl rfl (hx.size 2 (by decide)) ?_
                          refine w_iconst (v := 1) s54_188 rfl ?_
                          refine w_isub s54_189 (nI_pred (cc 20)) ?_
                          refine w_iret s54_190 rk54 ?_
                          exact xq_end (by decide) (by decide) (by simp [S_notice, S_meets, tn, *] <;> first | rfl | exact ⟨rfl, rfl⟩ | exact ⟨rfl, rfl, rfl⟩) hx
                        · skip
                          refine w_iload s54_146 rfl ?_
                          refine w_goto s54_148 rfl ?_
                          refine w_istore s54_152 rfl ?_
                          show am_wp _ (_, [_, _, _, _, _, _, _, _, _, _], _) _ _
                          refine w_aload_n s54_154 rfl ?_
                          refine w_getf s54_155 hx.o rfl ?_
                          refine w_new s54_158 rfl ?_
                          refine w_dup_r s54_161 ?_
                          refine w_iload_n s54_162 rfl ?_
                          refine w_iload s54_163 rfl ?_
                          refine w_iload_n s54_165 rfl ?_
                          refine w_iload s54_166 rfl ?_
                          refine w_iload s54_168 rfl ?_
                          refine w_aload_n s54_170 rfl ?_
                          refine w_getf s54_171 ((List.getElem?_append_left (x_lt (hx.o))).trans (hx.o)) rfl ?_
                          refine w_callI6 s54_174 mc54_10 rfl rfl (c10 h _ _ _ _ _ _) ?_
                          rintro v h1 ⟨rfl, rfl⟩
                          show am_wp _ (_, _, _) _ _
                          refine w_callV1 s54_177 ((List.getElem?_append_left (by have := x_lt (hx.l 2 (by decide)); simp only [List.length_append]; omega)).trans ((List.getElem?_append_left (by have := x_lt (hx.l 2 (by decide)); simp only [List.length_append]; omega)).trans ((List.getElem?_append_left (x_lt (hx.l 2 (by decide)))).trans (hx.l 2 (by decide))))) ow186 mc54_186 rfl rfl (x_add_no hx iv (by omega) _ _ _ _ _ _) ?_
                          rintro v h ⟨rfl, P, D, hx⟩
                          show am_wp _ (_, _, Value.int 1 :: _) _ _
                          refine w_pop_i s54_180 ?_
                          refine w_aload_n s54_181 rfl ?_
                          refine w_getf s54_182 hx.o rfl ?_
                          refine w_callV0r s54_185 (hx.l 2 (by decide)) ow181 mc54_181 rfl rfl (hx.size 2 (by decide)) ?_
                          refine w_iconst (v := 1) s54_188 rfl ?_
                          refine w_isub s54_189 (nI_pred (cc 20)) ?_
                          refine w_iret s54_190 rk54 ?_
                          exact xq_end (by decide) (by decide) (by simp [S_notice, S_meets, tn, *] <;> first | rfl | exact ⟨rfl, rfl⟩ | exact ⟨rfl, rfl, rfl⟩) hx
                    · skip
                      refine w_aload_n s54_116 rfl ?_
                      refine w_iconst (v := 5) s54_117 rfl ?_
                      refine w_callV1 s54_118 hx.o ow89 mc54_89 rfl rfl (c89 hx 5 (by decide)) ?_
                      rintro v h ⟨rfl, hx⟩
                      show am_wp _ (_, _, Value.int (-3) :: _) _ _
                      refine w_iret s54_121 rk54 ?_
                      exact xq_end (by decide) (by decide) (by simp [S_notice, S_meets, tn, *] <;> first | rfl | exact ⟨rfl, rfl⟩ | exact ⟨rfl, rfl, rfl⟩) hx
                  · skip
                    rw [decide_eq_false c98] at hba
                    replace hba : x_ba cc aa j = true := hba
                    refine w_bipush (v := (-5)) s54_101 rfl ?_
                    refine w_iret s54_103 rk54 ?_
                    exact xq_end (by decide) (by decide) (by simp [S_notice, S_meets, tn, *] <;> first | rfl | exact ⟨rfl, rfl⟩ | exact ⟨rfl, rfl, rfl⟩) hx
                · skip
                  have c78x := of_decide_eq_true c78
                  refine w_aload_n s54_81 rfl ?_
                  refine w_iconst (v := 1) s54_82 rfl ?_
                  refine w_callV1 s54_83 hx.o ow89 mc54_89 rfl rfl (c89 hx 1 (by decide)) ?_
                  rintro v h ⟨rfl, hx⟩
                  show am_wp _ (_, _, Value.int (-3) :: _) _ _
                  refine w_iret s54_86 rk54 ?_
                  exact xq_end (by decide) (by decide) (by simp [S_notice, S_meets, tn, *] <;> first | rfl | exact ⟨rfl, rfl⟩ | exact ⟨rfl, rfl, rfl⟩) hx
              · skip
                have e10 : cc 20 = 40 := by omega
                refine w_bipush (v := (-2)) s54_62 rfl ?_
                refine w_iret s54_64 rk54 ?_
                exact xq_end (by decide) (by decide) (by simp [S_notice, S_meets, tn, *] <;> first | rfl | exact ⟨rfl, rfl⟩ | exact ⟨rfl, rfl, rfl⟩) hx
            · skip
              refine w_iconst (v := (-1)) s54_48 rfl ?_
              refine w_iret s54_49 rk54 ?_
              exact xq_end (by decide) (by decide) (by simp [S_notice, S_meets, tn, *] <;> first | rfl | exact ⟨rfl, rfl⟩ | exact ⟨rfl, rfl, rfl⟩) hx
