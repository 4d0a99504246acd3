/-! the two constructors -/
theorem c23 (h : am_H) : am_ev 23 [.ref h.length] (h ++ [.inr (7, [.null, .int 0])]) (fun v h1 => v = none ∧ h1 = (h ++ ([.inr (7, [.ref (h.length + 1), .int (-1)])] : am_H)) ++ ([.inl (1, 80, .inl (fun _ => 0))] : am_H)) := by
  show am_wp _ (_, [_], _) _ _
  refine w_aload_n s23_0 rfl ?_
  refine w_oini s23_1 ro23 rfl ?_
  refine w_aload_n s23_4 rfl ?_
  refine w_bipush (v := 80) s23_5 rfl ?_
  refine w_nwb (n := 80) s23_7 (by omega) ?_
  rw [x_len1]
  refine w_putf s23_9 (by decide +kernel) (x_at_l1 h _ _) rfl rfl ?_
  rw [x_set_l1]
  refine w_aload_n s23_12 rfl ?_
  refine w_iconst (v := (-1)) s23_13 rfl ?_
  refine w_putf s23_14 (by decide +kernel) (x_at_l1 h _ _) rfl rfl ?_
  rw [x_set_l1]
  refine w_vret s23_17 rk23 ?_
  exact ⟨rfl, rfl⟩
theorem c0 (h : am_H) : am_ev 0 [.ref h.length] (h ++ [.inr (1, [.null, .null, .int 0])]) (fun v h1 => v = none ∧ h1 = ((h ++ ([.inr (1, [.ref (h.length + 1), .ref (h.length + 2), .int 0])] : am_H)) ++ ([.inl (1, 192, .inl (fun _ => 0))] : am_H)) ++ ([.inl (0, 16, .inl (fun _ => 0))] : am_H)) := by
  show am_wp _ (_, [_], _) _ _
  refine w_aload_n s0_0 rfl ?_
  refine w_oini s0_1 ro0 rfl ?_
  refine w_aload_n s0_4 rfl ?_
  refine w_sipush (v := 192) s0_5 rfl ?_
  refine w_nwb (n := 192) s0_8 (by omega) ?_
  rw [x_len1]
  refine w_putf s0_10 (by decide +kernel) (x_at_l1 h _ _) rfl rfl ?_
  rw [x_set_l1]
  refine w_aload_n s0_13 rfl ?_
  refine w_bipush (v := 16) s0_14 rfl ?_
  refine w_nwi (n := 16) s0_16 (by omega) ?_
  rw [x_len2]
  refine w_putf s0_18 (by decide +kernel) (x_at_l2 h _ _ _) rfl rfl ?_
  rw [x_set_l2]
  refine w_aload_n s0_21 rfl ?_
  refine w_iconst (v := 0) s0_22 rfl ?_
  refine w_putf s0_23 (by decide +kernel) (x_at_l2 h _ _ _) rfl rfl ?_
  rw [x_set_l2]
  refine w_vret s0_26 rk0 ?_
  exact ⟨rfl, rfl⟩
theorem c17 (h : am_H) : am_ev 17 [.ref h.length] (h ++ [.inr (6, [.null, .int 0, .null, .int 0])]) (fun v h1 => v = none ∧ h1 = ((h ++ ([.inr (6, [.ref (h.length + 1), .int 0, .ref (h.length + 2), .int 0])] : am_H)) ++ ([.inl (0, 10, .inl (fun _ => 0))] : am_H)) ++ ([.inl (0, 0, .inl (fun _ => 0))] : am_H)) := by
  show am_wp _ (_, [_], _) _ _
  refine w_aload_n s17_0 rfl ?_
  refine w_oini s17_1 ro17 rfl ?_
  refine w_aload_n s17_4 rfl ?_
  refine w_bipush (v := 10) s17_5 rfl ?_
  refine w_nwi (n := 10) s17_7 (by omega) ?_
  rw [x_len1]
  refine w_putf s17_9 (by decide +kernel) (x_at_l1 h _ _) rfl rfl ?_
  rw [x_set_l1]
  refine w_aload_n s17_12 rfl ?_
  refine w_iconst (v := 0) s17_13 rfl ?_
  refine w_putf s17_14 (by decide +kernel) (x_at_l1 h _ _) rfl rfl ?_
  rw [x_set_l1]
  refine w_aload_n s17_17 rfl ?_
  refine w_iconst (v := 0) s17_18 rfl ?_
  refine w_nwi (n := 0) s17_19 (by omega) ?_
  rw [x_len2]
  refine w_putf s17_21 (by decide +kernel) (x_at_l2 h _ _ _) rfl rfl ?_
  rw [x_set_l2]
  refine w_aload_n s17_24 rfl ?_
  refine w_iconst (v := 0) s17_25 rfl ?_
  refine w_putf s17_26 (by decide +kernel) (x_at_l2 h _ _ _) rfl rfl ?_
  rw [x_set_l2]
  refine w_vret s17_29 rk17 ?_
  exact ⟨rfl, rfl⟩
def x_h0 (e0 e1 e2 : am_C) : am_H := [e0, e1, e2, .inr (10, [.ref 4, .ref 5, .ref 6, .ref 7, .ref 8, .ref 9, .ref 10, .ref 19, .ref 22, .ref 25, .ref 26, .int 0, .int 0, .int 5]), .inr (0, [.int 0, .ref 1, .int 0]), .inr (0, [.int 0, .ref 1, .int 0]), .inr (0, [.int 0, .ref 1, .int 0]), .inr (0, [.int 0, .ref 1, .int 0]), .inr (0, [.int 0, .ref 1, .int 0]), .inr (0, [.int 0, .ref 1, .int 0]), .inl (4, 4, .inr (.inr (.inr (.inr (va_up (va_up (va_up (va_up (fun _ => none) 0 (some 11)) 1 (some 13)) 2 (some 15)) 3 (some 17)))))), .inr (7, [.ref 12, .int (-1)]), .inl (1, 80, .inl (fun _ => 0)), .inr (7, [.ref 14, .int (-1)]), .inl (1, 80, .inl (fun _ => 0)), .inr (7, [.ref 16, .int (-1)]), .inl (1, 80, .inl (fun _ => 0)), .inr (7, [.ref 18, .int (-1)]), .inl (1, 80, .inl (fun _ => 0)), .inr (1, [.ref 20, .ref 21, .int 0]), .inl (1, 192, .inl (fun _ => 0)), .inl (0, 16, .inl (fun _ => 0)), .inr (6, [.ref 23, .int 0, .ref 24, .int 0]), .inl (0, 10, .inl (fun _ => 0)), .inl (0, 0, .inl (fun _ => 0)), .inl (0, 6, .inl (fun k => if k < 6 then 1 else 0)), .inl (0, 6, .inl (fun _ => 0))]
theorem c39 (e0 e1 e2 : am_C) : am_ev 39 [.ref 3] [e0, e1, e2, .inr (10, [.null, .null, .null, .null, .null, .null, .null, .null, .null, .null, .null, .int 0, .int 0, .int 0])] (fun v h1 => v = none ∧ h1 = x_h0 e0 e1 e2) := by
  show am_wp _ (_, [_, _], _) _ _
  refine w_aload_n s39_0 rfl ?_
  refine w_oini s39_1 ro39 rfl ?_
  refine w_aload_n s39_4 rfl ?_
  refine w_new s39_5 rfl ?_
  refine w_dup_r s39_8 ?_
  refine w_callI0 s39_9 mc39_178 rfl rfl (c178 (h := [e0, e1, e2, .inr (10, [.null, .null, .null, .null, .null, .null, .null, .null, .null, .null, .null, .int 0, .int 0, .int 0])] ++ [.inr (0, [.int 0, .null, .int 0])]) rfl) ?_
  rintro v h1 ⟨rfl, rfl⟩
  show am_wp _ (_, _, _) [e0, e1, e2, .inr (10, [.null, .null, .null, .null, .null, .null, .null, .null, .null, .null, .null, .int 0, .int 0, .int 0]), .inr (0, [.int 0, .ref 1, .int 0])] _
  refine w_putf s39_12 (by decide +kernel) rfl rfl rfl ?_
  show am_wp _ (_, _, _) [e0, e1, e2, .inr (10, [.ref 4, .null, .null, .null, .null, .null, .null, .null, .null, .null, .null, .int 0, .int 0, .int 0]), .inr (0, [.int 0, .ref 1, .int 0])] _
  refine w_aload_n s39_15 rfl ?_
  refine w_new s39_16 rfl ?_
  refine w_dup_r s39_19 ?_
  refine w_callI0 s39_20 mc39_178 rfl rfl (c178 (h := [e0, e1, e2, .inr (10, [.ref 4, .null, .null, .null, .null, .null, .null, .null, .null, .null, .null, .int 0, .int 0, .int 0]), .inr (0, [.int 0, .ref 1, .int 0])] ++ [.inr (0, [.int 0, .null, .int 0])]) rfl) ?_
  rintro v h1 ⟨rfl, rfl⟩
  show am_wp _ (_, _, _) [e0, e1, e2, .inr (10, [.ref 4, .null, .null, .null, .null, .null, .null, .null, .null, .null, .null, .int 0, .int 0, .int 0]), .inr (0, [.int 0, .ref 1, .int 0]), .inr (0, [.int 0, .ref 1, .int 0])] _
  refine w_putf s39_23 (by decide +kernel) rfl rfl rfl ?_
  show am_wp _ (_, _, _) [e0, e1, e2, .inr (10, [.ref 4, .ref 5, .null, .null, .null, .null, .null, .null, .null, .null, .null, .int 0, .int 0, .int 0]), .inr (0, [.int 0, .ref 1, .int 0]), .inr (0, [.int 0, .ref 1, .int 0])] _
  refine w_aload_n s39_26 rfl ?_
  refine w_new s39_27 rfl ?_
  refine w_dup_r s39_30 ?_
  refine w_callI0 s39_31 mc39_178 rfl rfl (c178 (h := [e0, e1, e2, .inr (10, [.ref 4, .ref 5, .null, .null, .null, .null, .null, .null, .null, .null, .null, .int 0, .int 0, .int 0]), .inr (0, [.int 0, .ref 1, .int 0]), .inr (0, [.int 0, .ref 1, .int 0])] ++ [.inr (0, [.int 0, .null, .int 0])]) rfl) ?_
  rintro v h1 ⟨rfl, rfl⟩
  show am_wp _ (_, _, _) [e0, e1, e2, .inr (10, [.ref 4, .ref 5, .null, .null, .null, .null, .null, .null, .null, .null, .null, .int 0, .int 0, .int 0]), .inr (0, [.int 0, .ref 1, .int 0]), .inr (0, [.int 0, .ref 1, .int 0]), .inr (0, [.int 0, .ref 1, .int 0])] _
  refine w_putf s39_34 (by decide +kernel) rfl rfl rfl ?_
  show am_wp _ (_, _, _) [e0, e1, e2, .inr (10, [.ref 4, .ref 5, .ref 6, .null, .null, .null, .null, .null, .null, .null, .null, .int 0, .int 0, .int 0]), .inr (0, [.int 0, .ref 1, .int 0]), .inr (0, [.int 0, .ref 1, .int 0]), .inr (0, [.int 0, .ref 1, .int 0])] _
  refine w_aload_n s39_37 rfl ?_
  refine w_new s39_38 rfl ?_
  refine w_dup_r s39_41 ?_
  refine w_callI0 s39_42 mc39_178 rfl rfl (c178 (h := [e0, e1, e2, .inr (10, [.ref 4, .ref 5, .ref 6, .null, .null, .null, .null, .null, .null, .null, .null, .int 0, .int 0, .int 0]), .inr (0, [.int 0, .ref 1, .int 0]), .inr (0, [.int 0, .ref 1, .int 0]), .inr (0, [.int 0, .ref 1, .int 0])] ++ [.inr (0, [.int 0, .null, .int 0])]) rfl) ?_
  rintro v h1 ⟨rfl, rfl⟩
  show am_wp _ (_, _, _) [e0, e1, e2, .inr (10, [.ref 4, .ref 5, .ref 6, .null, .null, .null, .null, .null, .null, .null, .null, .int 0, .int 0, .int 0]), .inr (0, [.int 0, .ref 1, .int 0]), .inr (0, [.int 0, .ref 1, .int 0]), .inr (0, [.int 0, .ref 1, .int 0]), .inr (0, [.int 0, .ref 1, .int 0])] _
  refine w_putf s39_45 (by decide +kernel) rfl rfl rfl ?_
  show am_wp _ (_, _, _) [e0, e1, e2, .inr (10, [.ref 4, .ref 5, .ref 6, .ref 7, .null, .null, .null, .null, .null, .null, .null, .int 0, .int 0, .int 0]), .inr (0, [.int 0, .ref 1, .int 0]), .inr (0, [.int 0, .ref 1, .int 0]), .inr (0, [.int 0, .ref 1, .int 0]), .inr (0, [.int 0, .ref 1, .int 0])] _
  refine w_aload_n s39_48 rfl ?_
  refine w_new s39_49 rfl ?_
  refine w_dup_r s39_52 ?_
  refine w_callI0 s39_53 mc39_178 rfl rfl (c178 (h := [e0, e1, e2, .inr (10, [.ref 4, .ref 5, .ref 6, .ref 7, .null, .null, .null, .null, .null, .null, .null, .int 0, .int 0, .int 0]), .inr (0, [.int 0, .ref 1, .int 0]), .inr (0, [.int 0, .ref 1, .int 0]), .inr (0, [.int 0, .ref 1, .int 0]), .inr (0, [.int 0, .ref 1, .int 0])] ++ [.inr (0, [.int 0, .null, .int 0])]) rfl) ?_
  rintro v h1 ⟨rfl, rfl⟩
  show am_wp _ (_, _, _) [e0, e1, e2, .inr (10, [.ref 4, .ref 5, .ref 6, .ref 7, .null, .null, .null, .null, .null, .null, .null, .int 0, .int 0, .int 0]), .inr (0, [.int 0, .ref 1, .int 0]), .inr (0, [.int 0, .ref 1, .int 0]), .inr (0, [.int 0, .ref 1, .int 0]), .inr (0, [.int 0, .ref 1, .int 0]), .inr (0, [.int 0, .ref 1, .int 0])] _
  refine w_putf s39_56 (by decide +kernel) rfl rfl rfl ?_
  show am_wp _ (_, _, _) [e0, e1, e2, .inr (10, [.ref 4, .ref 5, .ref 6, .ref 7, .ref 8, .null, .null, .null, .null, .null, .null, .int 0, .int 0, .int 0]), .inr (0, [.int 0, .ref 1, .int 0]), .inr (0, [.int 0, .ref 1, .int 0]), .inr (0, [.int 0, .ref 1, .int 0]), .inr (0, [.int 0, .ref 1, .int 0]), .inr (0, [.int 0, .ref 1, .int 0])] _
  refine w_aload_n s39_59 rfl ?_
  refine w_new s39_60 rfl ?_
  refine w_dup_r s39_63 ?_
  refine w_callI0 s39_64 mc39_178 rfl rfl (c178 (h := [e0, e1, e2, .inr (10, [.ref 4, .ref 5, .ref 6, .ref 7, .ref 8, .null, .null, .null, .null, .null, .null, .int 0, .int 0, .int 0]), .inr (0, [.int 0, .ref 1, .int 0]), .inr (0, [.int 0, .ref 1, .int 0]), .inr (0, [.int 0, .ref 1, .int 0]), .inr (0, [.int 0, .ref 1, .int 0]), .inr (0, [.int 0, .ref 1, .int 0])] ++ [.inr (0, [.int 0, .null, .int 0])]) rfl) ?_
  rintro v h1 ⟨rfl, rfl⟩
  show am_wp _ (_, _, _) [e0, e1, e2, .inr (10, [.ref 4, .ref 5, .ref 6, .ref 7, .ref 8, .null, .null, .null, .null, .null, .null, .int 0, .int 0, .int 0]), .inr (0, [.int 0, .ref 1, .int 0]), .inr (0, [.int 0, .ref 1, .int 0]), .inr (0, [.int 0, .ref 1, .int 0]), .inr (0, [.int 0, .ref 1, .int 0]), .inr (0, [.int 0, .ref 1, .int 0]), .inr (0, [.int 0, .ref 1, .int 0])] _
  refine w_putf s39_67 (by decide +kernel) rfl rfl rfl ?_
  show am_wp _ (_, _, _) [e0, e1, e2, .inr (10, [.ref 4, .ref 5, .ref 6, .ref 7, .ref 8, .ref 9, .null, .null, .null, .null, .null, .int 0, .int 0, .int 0]), .inr (0, [.int 0, .ref 1, .int 0]), .inr (0, [.int 0, .ref 1, .int 0]), .inr (0, [.int 0, .ref 1, .int 0]), .inr (0, [.int 0, .ref 1, .int 0]), .inr (0, [.int 0, .ref 1, .int 0]), .inr (0, [.int 0, .ref 1, .int 0])] _
  refine w_aload_n s39_70 rfl ?_
  refine w_iconst (v := 4) s39_71 rfl ?_
  refine w_anw (n := 4) s39_72 (by omega) ?_
  show am_wp _ (_, _, _) [e0, e1, e2, .inr (10, [.ref 4, .ref 5, .ref 6, .ref 7, .ref 8, .ref 9, .null, .null, .null, .null, .null, .int 0, .int 0, .int 0]), .inr (0, [.int 0, .ref 1, .int 0]), .inr (0, [.int 0, .ref 1, .int 0]), .inr (0, [.int 0, .ref 1, .int 0]), .inr (0, [.int 0, .ref 1, .int 0]), .inr (0, [.int 0, .ref 1, .int 0]), .inr (0, [.int 0, .ref 1, .int 0]), .inl (4, 4, .inr (.inr (.inr (.inr (fun _ => none)))))] _
  refine w_putf s39_75 (by decide +kernel) rfl rfl rfl ?_
  show am_wp _ (_, _, _) [e0, e1, e2, .inr (10, [.ref 4, .ref 5, .ref 6, .ref 7, .ref 8, .ref 9, .ref 10, .null, .null, .null, .null, .int 0, .int 0, .int 0]), .inr (0, [.int 0, .ref 1, .int 0]), .inr (0, [.int 0, .ref 1, .int 0]), .inr (0, [.int 0, .ref 1, .int 0]), .inr (0, [.int 0, .ref 1, .int 0]), .inr (0, [.int 0, .ref 1, .int 0]), .inr (0, [.int 0, .ref 1, .int 0]), .inl (4, 4, .inr (.inr (.inr (.inr (fun _ => none)))))] _
  refine w_iconst (v := 0) s39_78 rfl ?_
  refine w_istore_n s39_79 rfl ?_
  show am_wp _ (_, [_, _], _) _ _
  refine w_iload_n s39_80 rfl ?_
  refine w_iconst (v := 4) s39_81 rfl ?_
  refine w_icmpge s39_82 rfl  (fun c => absurd c (by decide)) (fun c82 => ?_)
  refine w_aload_n s39_85 rfl ?_
  refine w_getf s39_86 rfl rfl ?_
  refine w_iload_n s39_89 rfl ?_
  refine w_new s39_90 rfl ?_
  refine w_dup_r s39_93 ?_
  refine w_callI0 s39_94 mc39_23 rfl rfl (c23 [e0, e1, e2, .inr (10, [.ref 4, .ref 5, .ref 6, .ref 7, .ref 8, .ref 9, .ref 10, .null, .null, .null, .null, .int 0, .int 0, .int 0]), .inr (0, [.int 0, .ref 1, .int 0]), .inr (0, [.int 0, .ref 1, .int 0]), .inr (0, [.int 0, .ref 1, .int 0]), .inr (0, [.int 0, .ref 1, .int 0]), .inr (0, [.int 0, .ref 1, .int 0]), .inr (0, [.int 0, .ref 1, .int 0]), .inl (4, 4, .inr (.inr (.inr (.inr (fun _ => none)))))]) ?_
  rintro v h1 ⟨rfl, rfl⟩
  show am_wp _ (_, _, _) [e0, e1, e2, .inr (10, [.ref 4, .ref 5, .ref 6, .ref 7, .ref 8, .ref 9, .ref 10, .null, .null, .null, .null, .int 0, .int 0, .int 0]), .inr (0, [.int 0, .ref 1, .int 0]), .inr (0, [.int 0, .ref 1, .int 0]), .inr (0, [.int 0, .ref 1, .int 0]), .inr (0, [.int 0, .ref 1, .int 0]), .inr (0, [.int 0, .ref 1, .int 0]), .inr (0, [.int 0, .ref 1, .int 0]), .inl (4, 4, .inr (.inr (.inr (.inr (fun _ => none))))), .inr (7, [.ref 12, .int (-1)]), .inl (1, 80, .inl (fun _ => 0))] _
  refine w_aast (ci := 7) (x := 10) (v := 11) s39_97 rfl rfl (Or.inr ⟨rfl, rfl⟩) (by decide) ?_
  show am_wp _ (_, _, _) [e0, e1, e2, .inr (10, [.ref 4, .ref 5, .ref 6, .ref 7, .ref 8, .ref 9, .ref 10, .null, .null, .null, .null, .int 0, .int 0, .int 0]), .inr (0, [.int 0, .ref 1, .int 0]), .inr (0, [.int 0, .ref 1, .int 0]), .inr (0, [.int 0, .ref 1, .int 0]), .inr (0, [.int 0, .ref 1, .int 0]), .inr (0, [.int 0, .ref 1, .int 0]), .inr (0, [.int 0, .ref 1, .int 0]), .inl (4, 4, .inr (.inr (.inr (.inr (va_up (fun _ => none) 0 (some 11)))))), .inr (7, [.ref 12, .int (-1)]), .inl (1, 80, .inl (fun _ => 0))] _
  refine w_iinc s39_98 rfl (show (0 : Int32) + Int32.ofInt 1 = 1 from rfl) rfl ?_
  show am_wp _ (_, [_, _], _) _ _
  refine w_goto s39_101 rfl ?_
  refine w_iload_n s39_80 rfl ?_
  refine w_iconst (v := 4) s39_81 rfl ?_
  refine w_icmpge s39_82 rfl  (fun c => absurd c (by decide)) (fun c82 => ?_)
  refine w_aload_n s39_85 rfl ?_
  refine w_getf s39_86 rfl rfl ?_
  refine w_iload_n s39_89 rfl ?_
  refine w_new s39_90 rfl ?_
  refine w_dup_r s39_93 ?_
  refine w_callI0 s39_94 mc39_23 rfl rfl (c23 [e0, e1, e2, .inr (10, [.ref 4, .ref 5, .ref 6, .ref 7, .ref 8, .ref 9, .ref 10, .null, .null, .null, .null, .int 0, .int 0, .int 0]), .inr (0, [.int 0, .ref 1, .int 0]), .inr (0, [.int 0, .ref 1, .int 0]), .inr (0, [.int 0, .ref 1, .int 0]), .inr (0, [.int 0, .ref 1, .int 0]), .inr (0, [.int 0, .ref 1, .int 0]), .inr (0, [.int 0, .ref 1, .int 0]), .inl (4, 4, .inr (.inr (.inr (.inr (va_up (fun _ => none) 0 (some 11)))))), .inr (7, [.ref 12, .int (-1)]), .inl (1, 80, .inl (fun _ => 0))]) ?_
  rintro v h1 ⟨rfl, rfl⟩
  show am_wp _ (_, _, _) [e0, e1, e2, .inr (10, [.ref 4, .ref 5, .ref 6, .ref 7, .ref 8, .ref 9, .ref 10, .null, .null, .null, .null, .int 0, .int 0, .int 0]), .inr (0, [.int 0, .ref 1, .int 0]), .inr (0, [.int 0, .ref 1, .int 0]), .inr (0, [.int 0, .ref 1, .int 0]), .inr (0, [.int 0, .ref 1, .int 0]), .inr (0, [.int 0, .ref 1, .int 0]), .inr (0, [.int 0, .ref 1, .int 0]), .inl (4, 4, .inr (.inr (.inr (.inr (va_up (fun _ => none) 0 (some 11)))))), .inr (7, [.ref 12, .int (-1)]), .inl (1, 80, .inl (fun _ => 0)), .inr (7, [.ref 14, .int (-1)]), .inl (1, 80, .inl (fun _ => 0))] _
  refine w_aast (ci := 7) (x := 10) (v := 13) s39_97 rfl rfl (Or.inr ⟨rfl, rfl⟩) (by decide) ?_
  show am_wp _ (_, _, _) [e0, e1, e2, .inr (10, [.ref 4, .ref 5, .ref 6, .ref 7, .ref 8, .ref 9, .ref 10, .null, .null, .null, .null, .int 0, .int 0, .int 0]), .inr (0, [.int 0, .ref 1, .int 0]), .inr (0, [.int 0, .ref 1, .int 0]), .inr (0, [.int 0, .ref 1, .int 0]), .inr (0, [.int 0, .ref 1, .int 0]), .inr (0, [.int 0, .ref 1, .int 0]), .inr (0, [.int 0, .ref 1, .int 0]), .inl (4, 4, .inr (.inr (.inr (.inr (va_up (va_up (fun _ => none) 0 (some 11)) 1 (some 13)))))), .inr (7, [.ref 12, .int (-1)]), .inl (1, 80, .inl (fun _ => 0)), .inr (7, [.ref 14, .int (-1)]), .inl (1, 80, .inl (fun _ => 0))] _
  refine w_iinc s39_98 rfl (show (1 : Int32) + Int32.ofInt 1 = 2 from rfl) rfl ?_
  show am_wp _ (_, [_, _], _) _ _
  refine w_goto s39_101 rfl ?_
  refine w_iload_n s39_80 rfl ?_
  refine w_iconst (v := 4) s39_81 rfl ?_
  refine w_icmpge s39_82 rfl  (fun c => absurd c (by decide)) (fun c82 => ?_)
  refine w_aload_n s39_85 rfl ?_
  refine w_getf s39_86 rfl rfl ?_
  refine w_iload_n s39_89 rfl ?_
  refine w_new s39_90 rfl ?_
  refine w_dup_r s39_93 ?_
  refine w_callI0 s39_94 mc39_23 rfl rfl (c23 [e0, e1, e2, .inr (10, [.ref 4, .ref 5, .ref 6, .ref 7, .ref 8, .ref 9, .ref 10, .null, .null, .null, .null, .int 0, .int 0, .int 0]), .inr (0, [.int 0, .ref 1, .int 0]), .inr (0, [.int 0, .ref 1, .int 0]), .inr (0, [.int 0, .ref 1, .int 0]), .inr (0, [.int 0, .ref 1, .int 0]), .inr (0, [.int 0, .ref 1, .int 0]), .inr (0, [.int 0, .ref 1, .int 0]), .inl (4, 4, .inr (.inr (.inr (.inr (va_up (va_up (fun _ => none) 0 (some 11)) 1 (some 13)))))), .inr (7, [.ref 12, .int (-1)]), .inl (1, 80, .inl (fun _ => 0)), .inr (7, [.ref 14, .int (-1)]), .inl (1, 80, .inl (fun _ => 0))]) ?_
  rintro v h1 ⟨rfl, rfl⟩
  show am_wp _ (_, _, _) [e0, e1, e2, .inr (10, [.ref 4, .ref 5, .ref 6, .ref 7, .ref 8, .ref 9, .ref 10, .null, .null, .null, .null, .int 0, .int 0, .int 0]), .inr (0, [.int 0, .ref 1, .int 0]), .inr (0, [.int 0, .ref 1, .int 0]), .inr (0, [.int 0, .ref 1, .int 0]), .inr (0, [.int 0, .ref 1, .int 0]), .inr (0, [.int 0, .ref 1, .int 0]), .inr (0, [.int 0, .ref 1, .int 0]), .inl (4, 4, .inr (.inr (.inr (.inr (va_up (va_up (fun _ => none) 0 (some 11)) 1 (some 13)))))), .inr (7, [.ref 12, .int (-1)]), .inl (1, 80, .inl (fun _ => 0)), .inr (7, [.ref 14, .int (-1)]), .inl (1, 80, .inl (fun _ => 0)), .inr (7, [.ref 16, .int (-1)]), .inl (1, 80, .inl (fun _ => 0))] _
  refine w_aast (ci := 7) (x := 10) (v := 15) s39_97 rfl rfl (Or.inr ⟨rfl, rfl⟩) (by decide) ?_
  show am_wp _ (_, _, _) [e0, e1, e2, .inr (10, [.ref 4, .ref 5, .ref 6, .ref 7, .ref 8, .ref 9, .ref 10, .null, .null, .null, .null, .int 0, .int 0, .int 0]), .inr (0, [.int 0, .ref 1, .int 0]), .inr (0, [.int 0, .ref 1, .int 0]), .inr (0, [.int 0, .ref 1, .int 0]), .inr (0, [.int 0, .ref 1, .int 0]), .inr (0, [.int 0, .ref 1, .int 0]), .inr (0, [.int 0, .ref 1, .int 0]), .inl (4, 4, .inr (.inr (.inr (.inr (va_up (va_up (va_up (fun _ => none) 0 (some 11)) 1 (some 13)) 2 (some 15)))))), .inr (7, [.ref 12, .int (-1)]), .inl (1, 80, .inl (fun _ => 0)), .inr (7, [.ref 14, .int (-1)]), .inl (1, 80, .inl (fun _ => 0)), .inr (7, [.ref 16, .int (-1)]), .inl (1, 80, .inl (fun _ => 0))] _
  refine w_iinc s39_98 rfl (show (2 : Int32) + Int32.ofInt 1 = 3 from rfl) rfl ?_
  show am_wp _ (_, [_, _], _) _ _
  refine w_goto s39_101 rfl ?_
  refine w_iload_n s39_80 rfl ?_
  refine w_iconst (v := 4) s39_81 rfl ?_
  refine w_icmpge s39_82 rfl  (fun c => absurd c (by decide)) (fun c82 => ?_)
  refine w_aload_n s39_85 rfl ?_
  refine w_getf s39_86 rfl rfl ?_
  refine w_iload_n s39_89 rfl ?_
  refine w_new s39_90 rfl ?_
  refine w_dup_r s39_93 ?_
  refine w_callI0 s39_94 mc39_23 rfl rfl (c23 [e0, e1, e2, .inr (10, [.ref 4, .ref 5, .ref 6, .ref 7, .ref 8, .ref 9, .ref 10, .null, .null, .null, .null, .int 0, .int 0, .int 0]), .inr (0, [.int 0, .ref 1, .int 0]), .inr (0, [.int 0, .ref 1, .int 0]), .inr (0, [.int 0, .ref 1, .int 0]), .inr (0, [.int 0, .ref 1, .int 0]), .inr (0, [.int 0, .ref 1, .int 0]), .inr (0, [.int 0, .ref 1, .int 0]), .inl (4, 4, .inr (.inr (.inr (.inr (va_up (va_up (va_up (fun _ => none) 0 (some 11)) 1 (some 13)) 2 (some 15)))))), .inr (7, [.ref 12, .int (-1)]), .inl (1, 80, .inl (fun _ => 0)), .inr (7, [.ref 14, .int (-1)]), .inl (1, 80, .inl (fun _ => 0)), .inr (7, [.ref 16, .int (-1)]), .inl (1, 80, .inl (fun _ => 0))]) ?_
  rintro v h1 ⟨rfl, rfl⟩
  show am_wp _ (_, _, _) [e0, e1, e2, .inr (10, [.ref 4, .ref 5, .ref 6, .ref 7, .ref 8, .ref 9, .ref 10, .null, .null, .null, .null, .int 0, .int 0, .int 0]), .inr (0, [.int 0, .ref 1, .int 0]), .inr (0, [.int 0, .ref 1, .int 0]), .inr (0, [.int 0, .ref 1, .int 0]), .inr (0, [.int 0, .ref 1, .int 0]), .inr (0, [.int 0, .ref 1, .int 0]), .inr (0, [.int 0, .ref 1, .int 0]), .inl (4, 4, .inr (.inr (.inr (.inr (va_up (va_up (va_up (fun _ => none) 0 (some 11)) 1 (some 13)) 2 (some 15)))))), .inr (7, [.ref 12, .int (-1)]), .inl (1, 80, .inl (fun _ => 0)), .inr (7, [.ref 14, .int (-1)]), .inl (1, 80, .inl (fun _ => 0)), .inr (7, [.ref 16, .int (-1)]), .inl (1, 80, .inl (fun _ => 0)), .inr (7, [.ref 18, .int (-1)]), .inl (1, 80, .inl (fun _ => 0))] _
  refine w_aast (ci := 7) (x := 10) (v := 17) s39_97 rfl rfl (Or.inr ⟨rfl, rfl⟩) (by decide) ?_
  show am_wp _ (_, _, _) [e0, e1, e2, .inr (10, [.ref 4, .ref 5, .ref 6, .ref 7, .ref 8, .ref 9, .ref 10, .null, .null, .null, .null, .int 0, .int 0, .int 0]), .inr (0, [.int 0, .ref 1, .int 0]), .inr (0, [.int 0, .ref 1, .int 0]), .inr (0, [.int 0, .ref 1, .int 0]), .inr (0, [.int 0, .ref 1, .int 0]), .inr (0, [.int 0, .ref 1, .int 0]), .inr (0, [.int 0, .ref 1, .int 0]), .inl (4, 4, .inr (.inr (.inr (.inr (va_up (va_up (va_up (va_up (fun _ => none) 0 (some 11)) 1 (some 13)) 2 (some 15)) 3 (some 17)))))), .inr (7, [.ref 12, .int (-1)]), .inl (1, 80, .inl (fun _ => 0)), .inr (7, [.ref 14, .int (-1)]), .inl (1, 80, .inl (fun _ => 0)), .inr (7, [.ref 16, .int (-1)]), .inl (1, 80, .inl (fun _ => 0)), .inr (7, [.ref 18, .int (-1)]), .inl (1, 80, .inl (fun _ => 0))] _
  refine w_iinc s39_98 rfl (show (3 : Int32) + Int32.ofInt 1 = 4 from rfl) rfl ?_
  show am_wp _ (_, [_, _], _) _ _
  refine w_goto s39_101 rfl ?_
  refine w_iload_n s39_80 rfl ?_
  refine w_iconst (v := 4) s39_81 rfl ?_
  refine w_icmpge s39_82 rfl  (fun c82 => ?_) (fun c => absurd c (by decide))
  refine w_aload_n s39_104 rfl ?_
  refine w_new s39_105 rfl ?_
  refine w_dup_r s39_108 ?_
  refine w_callI0 s39_109 mc39_0 rfl rfl (c0 [e0, e1, e2, .inr (10, [.ref 4, .ref 5, .ref 6, .ref 7, .ref 8, .ref 9, .ref 10, .null, .null, .null, .null, .int 0, .int 0, .int 0]), .inr (0, [.int 0, .ref 1, .int 0]), .inr (0, [.int 0, .ref 1, .int 0]), .inr (0, [.int 0, .ref 1, .int 0]), .inr (0, [.int 0, .ref 1, .int 0]), .inr (0, [.int 0, .ref 1, .int 0]), .inr (0, [.int 0, .ref 1, .int 0]), .inl (4, 4, .inr (.inr (.inr (.inr (va_up (va_up (va_up (va_up (fun _ => none) 0 (some 11)) 1 (some 13)) 2 (some 15)) 3 (some 17)))))), .inr (7, [.ref 12, .int (-1)]), .inl (1, 80, .inl (fun _ => 0)), .inr (7, [.ref 14, .int (-1)]), .inl (1, 80, .inl (fun _ => 0)), .inr (7, [.ref 16, .int (-1)]), .inl (1, 80, .inl (fun _ => 0)), .inr (7, [.ref 18, .int (-1)]), .inl (1, 80, .inl (fun _ => 0))]) ?_
  rintro v h1 ⟨rfl, rfl⟩
  show am_wp _ (_, _, _) [e0, e1, e2, .inr (10, [.ref 4, .ref 5, .ref 6, .ref 7, .ref 8, .ref 9, .ref 10, .null, .null, .null, .null, .int 0, .int 0, .int 0]), .inr (0, [.int 0, .ref 1, .int 0]), .inr (0, [.int 0, .ref 1, .int 0]), .inr (0, [.int 0, .ref 1, .int 0]), .inr (0, [.int 0, .ref 1, .int 0]), .inr (0, [.int 0, .ref 1, .int 0]), .inr (0, [.int 0, .ref 1, .int 0]), .inl (4, 4, .inr (.inr (.inr (.inr (va_up (va_up (va_up (va_up (fun _ => none) 0 (some 11)) 1 (some 13)) 2 (some 15)) 3 (some 17)))))), .inr (7, [.ref 12, .int (-1)]), .inl (1, 80, .inl (fun _ => 0)), .inr (7, [.ref 14, .int (-1)]), .inl (1, 80, .inl (fun _ => 0)), .inr (7, [.ref 16, .int (-1)]), .inl (1, 80, .inl (fun _ => 0)), .inr (7, [.ref 18, .int (-1)]), .inl (1, 80, .inl (fun _ => 0)), .inr (1, [.ref 20, .ref 21, .int 0]), .inl (1, 192, .inl (fun _ => 0)), .inl (0, 16, .inl (fun _ => 0))] _
  refine w_putf s39_112 (by decide +kernel) rfl rfl rfl ?_
  show am_wp _ (_, _, _) [e0, e1, e2, .inr (10, [.ref 4, .ref 5, .ref 6, .ref 7, .ref 8, .ref 9, .ref 10, .ref 19, .null, .null, .null, .int 0, .int 0, .int 0]), .inr (0, [.int 0, .ref 1, .int 0]), .inr (0, [.int 0, .ref 1, .int 0]), .inr (0, [.int 0, .ref 1, .int 0]), .inr (0, [.int 0, .ref 1, .int 0]), .inr (0, [.int 0, .ref 1, .int 0]), .inr (0, [.int 0, .ref 1, .int 0]), .inl (4, 4, .inr (.inr (.inr (.inr (va_up (va_up (va_up (va_up (fun _ => none) 0 (some 11)) 1 (some 13)) 2 (some 15)) 3 (some 17)))))), .inr (7, [.ref 12, .int (-1)]), .inl (1, 80, .inl (fun _ => 0)), .inr (7, [.ref 14, .int (-1)]), .inl (1, 80, .inl (fun _ => 0)), .inr (7, [.ref 16, .int (-1)]), .inl (1, 80, .inl (fun _ => 0)), .inr (7, [.ref 18, .int (-1)]), .inl (1, 80, .inl (fun _ => 0)), .inr (1, [.ref 20, .ref 21, .int 0]), .inl (1, 192, .inl (fun _ => 0)), .inl (0, 16, .inl (fun _ => 0))] _
  refine w_aload_n s39_115 rfl ?_
  refine w_new s39_116 rfl ?_
  refine w_dup_r s39_119 ?_
  refine w_callI0 s39_120 mc39_17 rfl rfl (c17 [e0, e1, e2, .inr (10, [.ref 4, .ref 5, .ref 6, .ref 7, .ref 8, .ref 9, .ref 10, .ref 19, .null, .null, .null, .int 0, .int 0, .int 0]), .inr (0, [.int 0, .ref 1, .int 0]), .inr (0, [.int 0, .ref 1, .int 0]), .inr (0, [.int 0, .ref 1, .int 0]), .inr (0, [.int 0, .ref 1, .int 0]), .inr (0, [.int 0, .ref 1, .int 0]), .inr (0, [.int 0, .ref 1, .int 0]), .inl (4, 4, .inr (.inr (.inr (.inr (va_up (va_up (va_up (va_up (fun _ => none) 0 (some 11)) 1 (some 13)) 2 (some 15)) 3 (some 17)))))), .inr (7, [.ref 12, .int (-1)]), .inl (1, 80, .inl (fun _ => 0)), .inr (7, [.ref 14, .int (-1)]), .inl (1, 80, .inl (fun _ => 0)), .inr (7, [.ref 16, .int (-1)]), .inl (1, 80, .inl (fun _ => 0)), .inr (7, [.ref 18, .int (-1)]), .inl (1, 80, .inl (fun _ => 0)), .inr (1, [.ref 20, .ref 21, .int 0]), .inl (1, 192, .inl (fun _ => 0)), .inl (0, 16, .inl (fun _ => 0))]) ?_
  rintro v h1 ⟨rfl, rfl⟩
  show am_wp _ (_, _, _) [e0, e1, e2, .inr (10, [.ref 4, .ref 5, .ref 6, .ref 7, .ref 8, .ref 9, .ref 10, .ref 19, .null, .null, .null, .int 0, .int 0, .int 0]), .inr (0, [.int 0, .ref 1, .int 0]), .inr (0, [.int 0, .ref 1, .int 0]), .inr (0, [.int 0, .ref 1, .int 0]), .inr (0, [.int 0, .ref 1, .int 0]), .inr (0, [.int 0, .ref 1, .int 0]), .inr (0, [.int 0, .ref 1, .int 0]), .inl (4, 4, .inr (.inr (.inr (.inr (va_up (va_up (va_up (va_up (fun _ => none) 0 (some 11)) 1 (some 13)) 2 (some 15)) 3 (some 17)))))), .inr (7, [.ref 12, .int (-1)]), .inl (1, 80, .inl (fun _ => 0)), .inr (7, [.ref 14, .int (-1)]), .inl (1, 80, .inl (fun _ => 0)), .inr (7, [.ref 16, .int (-1)]), .inl (1, 80, .inl (fun _ => 0)), .inr (7, [.ref 18, .int (-1)]), .inl (1, 80, .inl (fun _ => 0)), .inr (1, [.ref 20, .ref 21, .int 0]), .inl (1, 192, .inl (fun _ => 0)), .inl (0, 16, .inl (fun _ => 0)), .inr (6, [.ref 23, .int 0, .ref 24, .int 0]), .inl (0, 10, .inl (fun _ => 0)), .inl (0, 0, .inl (fun _ => 0))] _
  refine w_putf s39_123 (by decide +kernel) rfl rfl rfl ?_
  show am_wp _ (_, _, _) [e0, e1, e2, .inr (10, [.ref 4, .ref 5, .ref 6, .ref 7, .ref 8, .ref 9, .ref 10, .ref 19, .ref 22, .null, .null, .int 0, .int 0, .int 0]), .inr (0, [.int 0, .ref 1, .int 0]), .inr (0, [.int 0, .ref 1, .int 0]), .inr (0, [.int 0, .ref 1, .int 0]), .inr (0, [.int 0, .ref 1, .int 0]), .inr (0, [.int 0, .ref 1, .int 0]), .inr (0, [.int 0, .ref 1, .int 0]), .inl (4, 4, .inr (.inr (.inr (.inr (va_up (va_up (va_up (va_up (fun _ => none) 0 (some 11)) 1 (some 13)) 2 (some 15)) 3 (some 17)))))), .inr (7, [.ref 12, .int (-1)]), .inl (1, 80, .inl (fun _ => 0)), .inr (7, [.ref 14, .int (-1)]), .inl (1, 80, .inl (fun _ => 0)), .inr (7, [.ref 16, .int (-1)]), .inl (1, 80, .inl (fun _ => 0)), .inr (7, [.ref 18, .int (-1)]), .inl (1, 80, .inl (fun _ => 0)), .inr (1, [.ref 20, .ref 21, .int 0]), .inl (1, 192, .inl (fun _ => 0)), .inl (0, 16, .inl (fun _ => 0)), .inr (6, [.ref 23, .int 0, .ref 24, .int 0]), .inl (0, 10, .inl (fun _ => 0)), .inl (0, 0, .inl (fun _ => 0))] _
  refine w_aload_n s39_126 rfl ?_
  refine w_bipush (v := 6) s39_127 rfl ?_
  refine w_nwi (n := 6) s39_129 (by omega) ?_
  show am_wp _ (_, _, _) [e0, e1, e2, .inr (10, [.ref 4, .ref 5, .ref 6, .ref 7, .ref 8, .ref 9, .ref 10, .ref 19, .ref 22, .null, .null, .int 0, .int 0, .int 0]), .inr (0, [.int 0, .ref 1, .int 0]), .inr (0, [.int 0, .ref 1, .int 0]), .inr (0, [.int 0, .ref 1, .int 0]), .inr (0, [.int 0, .ref 1, .int 0]), .inr (0, [.int 0, .ref 1, .int 0]), .inr (0, [.int 0, .ref 1, .int 0]), .inl (4, 4, .inr (.inr (.inr (.inr (va_up (va_up (va_up (va_up (fun _ => none) 0 (some 11)) 1 (some 13)) 2 (some 15)) 3 (some 17)))))), .inr (7, [.ref 12, .int (-1)]), .inl (1, 80, .inl (fun _ => 0)), .inr (7, [.ref 14, .int (-1)]), .inl (1, 80, .inl (fun _ => 0)), .inr (7, [.ref 16, .int (-1)]), .inl (1, 80, .inl (fun _ => 0)), .inr (7, [.ref 18, .int (-1)]), .inl (1, 80, .inl (fun _ => 0)), .inr (1, [.ref 20, .ref 21, .int 0]), .inl (1, 192, .inl (fun _ => 0)), .inl (0, 16, .inl (fun _ => 0)), .inr (6, [.ref 23, .int 0, .ref 24, .int 0]), .inl (0, 10, .inl (fun _ => 0)), .inl (0, 0, .inl (fun _ => 0)), .inl (0, 6, .inl (fun _ => 0))] _
  refine w_putf s39_131 (by decide +kernel) rfl rfl rfl ?_
  show am_wp _ (_, _, _) [e0, e1, e2, .inr (10, [.ref 4, .ref 5, .ref 6, .ref 7, .ref 8, .ref 9, .ref 10, .ref 19, .ref 22, .ref 25, .null, .int 0, .int 0, .int 0]), .inr (0, [.int 0, .ref 1, .int 0]), .inr (0, [.int 0, .ref 1, .int 0]), .inr (0, [.int 0, .ref 1, .int 0]), .inr (0, [.int 0, .ref 1, .int 0]), .inr (0, [.int 0, .ref 1, .int 0]), .inr (0, [.int 0, .ref 1, .int 0]), .inl (4, 4, .inr (.inr (.inr (.inr (va_up (va_up (va_up (va_up (fun _ => none) 0 (some 11)) 1 (some 13)) 2 (some 15)) 3 (some 17)))))), .inr (7, [.ref 12, .int (-1)]), .inl (1, 80, .inl (fun _ => 0)), .inr (7, [.ref 14, .int (-1)]), .inl (1, 80, .inl (fun _ => 0)), .inr (7, [.ref 16, .int (-1)]), .inl (1, 80, .inl (fun _ => 0)), .inr (7, [.ref 18, .int (-1)]), .inl (1, 80, .inl (fun _ => 0)), .inr (1, [.ref 20, .ref 21, .int 0]), .inl (1, 192, .inl (fun _ => 0)), .inl (0, 16, .inl (fun _ => 0)), .inr (6, [.ref 23, .int 0, .ref 24, .int 0]), .inl (0, 10, .inl (fun _ => 0)), .inl (0, 0, .inl (fun _ => 0)), .inl (0, 6, .inl (fun _ => 0))] _
  refine w_aload_n s39_134 rfl ?_
  refine w_getf s39_135 rfl rfl ?_
  refine w_iconst (v := 1) s39_138 rfl ?_
  refine w_callS2 s39_139 mc39_187 rfl rfl (c187 (h := [e0, e1, e2, .inr (10, [.ref 4, .ref 5, .ref 6, .ref 7, .ref 8, .ref 9, .ref 10, .ref 19, .ref 22, .ref 25, .null, .int 0, .int 0, .int 0]), .inr (0, [.int 0, .ref 1, .int 0]), .inr (0, [.int 0, .ref 1, .int 0]), .inr (0, [.int 0, .ref 1, .int 0]), .inr (0, [.int 0, .ref 1, .int 0]), .inr (0, [.int 0, .ref 1, .int 0]), .inr (0, [.int 0, .ref 1, .int 0]), .inl (4, 4, .inr (.inr (.inr (.inr (va_up (va_up (va_up (va_up (fun _ => none) 0 (some 11)) 1 (some 13)) 2 (some 15)) 3 (some 17)))))), .inr (7, [.ref 12, .int (-1)]), .inl (1, 80, .inl (fun _ => 0)), .inr (7, [.ref 14, .int (-1)]), .inl (1, 80, .inl (fun _ => 0)), .inr (7, [.ref 16, .int (-1)]), .inl (1, 80, .inl (fun _ => 0)), .inr (7, [.ref 18, .int (-1)]), .inl (1, 80, .inl (fun _ => 0)), .inr (1, [.ref 20, .ref 21, .int 0]), .inl (1, 192, .inl (fun _ => 0)), .inl (0, 16, .inl (fun _ => 0)), .inr (6, [.ref 23, .int 0, .ref 24, .int 0]), .inl (0, 10, .inl (fun _ => 0)), .inl (0, 0, .inl (fun _ => 0)), .inl (0, 6, .inl (fun _ => 0))]) (x := 25) rfl (by decide) (by decide)) ?_
  rintro v h1 ⟨rfl, rfl⟩
  show am_wp _ (_, _, _) [e0, e1, e2, .inr (10, [.ref 4, .ref 5, .ref 6, .ref 7, .ref 8, .ref 9, .ref 10, .ref 19, .ref 22, .ref 25, .null, .int 0, .int 0, .int 0]), .inr (0, [.int 0, .ref 1, .int 0]), .inr (0, [.int 0, .ref 1, .int 0]), .inr (0, [.int 0, .ref 1, .int 0]), .inr (0, [.int 0, .ref 1, .int 0]), .inr (0, [.int 0, .ref 1, .int 0]), .inr (0, [.int 0, .ref 1, .int 0]), .inl (4, 4, .inr (.inr (.inr (.inr (va_up (va_up (va_up (va_up (fun _ => none) 0 (some 11)) 1 (some 13)) 2 (some 15)) 3 (some 17)))))), .inr (7, [.ref 12, .int (-1)]), .inl (1, 80, .inl (fun _ => 0)), .inr (7, [.ref 14, .int (-1)]), .inl (1, 80, .inl (fun _ => 0)), .inr (7, [.ref 16, .int (-1)]), .inl (1, 80, .inl (fun _ => 0)), .inr (7, [.ref 18, .int (-1)]), .inl (1, 80, .inl (fun _ => 0)), .inr (1, [.ref 20, .ref 21, .int 0]), .inl (1, 192, .inl (fun _ => 0)), .inl (0, 16, .inl (fun _ => 0)), .inr (6, [.ref 23, .int 0, .ref 24, .int 0]), .inl (0, 10, .inl (fun _ => 0)), .inl (0, 0, .inl (fun _ => 0)), .inl (0, 6, .inl (fun k => if k < 6 then 1 else 0))] _
  refine w_aload_n s39_142 rfl ?_
  refine w_bipush (v := 6) s39_143 rfl ?_
  refine w_nwi (n := 6) s39_145 (by omega) ?_
  show am_wp _ (_, _, _) [e0, e1, e2, .inr (10, [.ref 4, .ref 5, .ref 6, .ref 7, .ref 8, .ref 9, .ref 10, .ref 19, .ref 22, .ref 25, .null, .int 0, .int 0, .int 0]), .inr (0, [.int 0, .ref 1, .int 0]), .inr (0, [.int 0, .ref 1, .int 0]), .inr (0, [.int 0, .ref 1, .int 0]), .inr (0, [.int 0, .ref 1, .int 0]), .inr (0, [.int 0, .ref 1, .int 0]), .inr (0, [.int 0, .ref 1, .int 0]), .inl (4, 4, .inr (.inr (.inr (.inr (va_up (va_up (va_up (va_up (fun _ => none) 0 (some 11)) 1 (some 13)) 2 (some 15)) 3 (some 17)))))), .inr (7, [.ref 12, .int (-1)]), .inl (1, 80, .inl (fun _ => 0)), .inr (7, [.ref 14, .int (-1)]), .inl (1, 80, .inl (fun _ => 0)), .inr (7, [.ref 16, .int (-1)]), .inl (1, 80, .inl (fun _ => 0)), .inr (7, [.ref 18, .int (-1)]), .inl (1, 80, .inl (fun _ => 0)), .inr (1, [.ref 20, .ref 21, .int 0]), .inl (1, 192, .inl (fun _ => 0)), .inl (0, 16, .inl (fun _ => 0)), .inr (6, [.ref 23, .int 0, .ref 24, .int 0]), .inl (0, 10, .inl (fun _ => 0)), .inl (0, 0, .inl (fun _ => 0)), .inl (0, 6, .inl (fun k => if k < 6 then 1 else 0)), .inl (0, 6, .inl (fun _ => 0))] _
  refine w_putf s39_147 (by decide +kernel) rfl rfl rfl ?_
  show am_wp _ (_, _, _) [e0, e1, e2, .inr (10, [.ref 4, .ref 5, .ref 6, .ref 7, .ref 8, .ref 9, .ref 10, .ref 19, .ref 22, .ref 25, .ref 26, .int 0, .int 0, .int 0]), .inr (0, [.int 0, .ref 1, .int 0]), .inr (0, [.int 0, .ref 1, .int 0]), .inr (0, [.int 0, .ref 1, .int 0]), .inr (0, [.int 0, .ref 1, .int 0]), .inr (0, [.int 0, .ref 1, .int 0]), .inr (0, [.int 0, .ref 1, .int 0]), .inl (4, 4, .inr (.inr (.inr (.inr (va_up (va_up (va_up (va_up (fun _ => none) 0 (some 11)) 1 (some 13)) 2 (some 15)) 3 (some 17)))))), .inr (7, [.ref 12, .int (-1)]), .inl (1, 80, .inl (fun _ => 0)), .inr (7, [.ref 14, .int (-1)]), .inl (1, 80, .inl (fun _ => 0)), .inr (7, [.ref 16, .int (-1)]), .inl (1, 80, .inl (fun _ => 0)), .inr (7, [.ref 18, .int (-1)]), .inl (1, 80, .inl (fun _ => 0)), .inr (1, [.ref 20, .ref 21, .int 0]), .inl (1, 192, .inl (fun _ => 0)), .inl (0, 16, .inl (fun _ => 0)), .inr (6, [.ref 23, .int 0, .ref 24, .int 0]), .inl (0, 10, .inl (fun _ => 0)), .inl (0, 0, .inl (fun _ => 0)), .inl (0, 6, .inl (fun k => if k < 6 then 1 else 0)), .inl (0, 6, .inl (fun _ => 0))] _
  refine w_aload_n s39_150 rfl ?_
  refine w_iconst (v := 0) s39_151 rfl ?_
  refine w_putf s39_152 (by decide +kernel) rfl rfl rfl ?_
  show am_wp _ (_, _, _) [e0, e1, e2, .inr (10, [.ref 4, .ref 5, .ref 6, .ref 7, .ref 8, .ref 9, .ref 10, .ref 19, .ref 22, .ref 25, .ref 26, .int 0, .int 0, .int 0]), .inr (0, [.int 0, .ref 1, .int 0]), .inr (0, [.int 0, .ref 1, .int 0]), .inr (0, [.int 0, .ref 1, .int 0]), .inr (0, [.int 0, .ref 1, .int 0]), .inr (0, [.int 0, .ref 1, .int 0]), .inr (0, [.int 0, .ref 1, .int 0]), .inl (4, 4, .inr (.inr (.inr (.inr (va_up (va_up (va_up (va_up (fun _ => none) 0 (some 11)) 1 (some 13)) 2 (some 15)) 3 (some 17)))))), .inr (7, [.ref 12, .int (-1)]), .inl (1, 80, .inl (fun _ => 0)), .inr (7, [.ref 14, .int (-1)]), .inl (1, 80, .inl (fun _ => 0)), .inr (7, [.ref 16, .int (-1)]), .inl (1, 80, .inl (fun _ => 0)), .inr (7, [.ref 18, .int (-1)]), .inl (1, 80, .inl (fun _ => 0)), .inr (1, [.ref 20, .ref 21, .int 0]), .inl (1, 192, .inl (fun _ => 0)), .inl (0, 16, .inl (fun _ => 0)), .inr (6, [.ref 23, .int 0, .ref 24, .int 0]), .inl (0, 10, .inl (fun _ => 0)), .inl (0, 0, .inl (fun _ => 0)), .inl (0, 6, .inl (fun k => if k < 6 then 1 else 0)), .inl (0, 6, .inl (fun _ => 0))] _
  refine w_aload_n s39_155 rfl ?_
  refine w_iconst (v := 0) s39_156 rfl ?_
  refine w_putf s39_157 (by decide +kernel) rfl rfl rfl ?_
  show am_wp _ (_, _, _) [e0, e1, e2, .inr (10, [.ref 4, .ref 5, .ref 6, .ref 7, .ref 8, .ref 9, .ref 10, .ref 19, .ref 22, .ref 25, .ref 26, .int 0, .int 0, .int 0]), .inr (0, [.int 0, .ref 1, .int 0]), .inr (0, [.int 0, .ref 1, .int 0]), .inr (0, [.int 0, .ref 1, .int 0]), .inr (0, [.int 0, .ref 1, .int 0]), .inr (0, [.int 0, .ref 1, .int 0]), .inr (0, [.int 0, .ref 1, .int 0]), .inl (4, 4, .inr (.inr (.inr (.inr (va_up (va_up (va_up (va_up (fun _ => none) 0 (some 11)) 1 (some 13)) 2 (some 15)) 3 (some 17)))))), .inr (7, [.ref 12, .int (-1)]), .inl (1, 80, .inl (fun _ => 0)), .inr (7, [.ref 14, .int (-1)]), .inl (1, 80, .inl (fun _ => 0)), .inr (7, [.ref 16, .int (-1)]), .inl (1, 80, .inl (fun _ => 0)), .inr (7, [.ref 18, .int (-1)]), .inl (1, 80, .inl (fun _ => 0)), .inr (1, [.ref 20, .ref 21, .int 0]), .inl (1, 192, .inl (fun _ => 0)), .inl (0, 16, .inl (fun _ => 0)), .inr (6, [.ref 23, .int 0, .ref 24, .int 0]), .inl (0, 10, .inl (fun _ => 0)), .inl (0, 0, .inl (fun _ => 0)), .inl (0, 6, .inl (fun k => if k < 6 then 1 else 0)), .inl (0, 6, .inl (fun _ => 0))] _
  refine w_aload_n s39_160 rfl ?_
  refine w_iconst (v := 5) s39_161 rfl ?_
  refine w_putf s39_162 (by decide +kernel) rfl rfl rfl ?_
  show am_wp _ (_, _, _) [e0, e1, e2, .inr (10, [.ref 4, .ref 5, .ref 6, .ref 7, .ref 8, .ref 9, .ref 10, .ref 19, .ref 22, .ref 25, .ref 26, .int 0, .int 0, .int 5]), .inr (0, [.int 0, .ref 1, .int 0]), .inr (0, [.int 0, .ref 1, .int 0]), .inr (0, [.int 0, .ref 1, .int 0]), .inr (0, [.int 0, .ref 1, .int 0]), .inr (0, [.int 0, .ref 1, .int 0]), .inr (0, [.int 0, .ref 1, .int 0]), .inl (4, 4, .inr (.inr (.inr (.inr (va_up (va_up (va_up (va_up (fun _ => none) 0 (some 11)) 1 (some 13)) 2 (some 15)) 3 (some 17)))))), .inr (7, [.ref 12, .int (-1)]), .inl (1, 80, .inl (fun _ => 0)), .inr (7, [.ref 14, .int (-1)]), .inl (1, 80, .inl (fun _ => 0)), .inr (7, [.ref 16, .int (-1)]), .inl (1, 80, .inl (fun _ => 0)), .inr (7, [.ref 18, .int (-1)]), .inl (1, 80, .inl (fun _ => 0)), .inr (1, [.ref 20, .ref 21, .int 0]), .inl (1, 192, .inl (fun _ => 0)), .inl (0, 16, .inl (fun _ => 0)), .inr (6, [.ref 23, .int 0, .ref 24, .int 0]), .inl (0, 10, .inl (fun _ => 0)), .inl (0, 0, .inl (fun _ => 0)), .inl (0, 6, .inl (fun k => if k < 6 then 1 else 0)), .inl (0, 6, .inl (fun _ => 0))] _
  refine w_vret s39_165 rk39 ?_
  exact ⟨rfl, rfl⟩
theorem x_c_at {h : am_H} (hl : h.length = 27) (o : am_C) (r : am_H) : (h ++ (o :: r))[27]? = some o := by
  rw [List.getElem?_append_right (by omega), hl]
  rfl
theorem x_c_set {h : am_H} (hl : h.length = 27) (o o' : am_C) (r : am_H) : (h ++ (o :: r)).set 27 o' = h ++ (o' :: r) := by
  rw [List.set_append_right _ _ (by omega), hl]
  rfl
theorem x_c_ar {h : am_H} (hl : h.length = 27) (o : am_C) (r : am_H) (j : Nat) : (h ++ (o :: r))[28 + j]? = r[j]? := by
  rw [List.getElem?_append_right (by omega), hl, show 28 + j - 27 = j + 1 by omega]
  rfl
theorem x_c_st {h : am_H} (hl : h.length = 27) (o c : am_C) (r : am_H) (j : Nat) : (h ++ (o :: r)).set (28 + j) c = h ++ (o :: r.set j c) := by
  rw [List.set_append_right _ _ (by omega), hl, show 28 + j - 27 = j + 1 by omega]
  rfl
theorem x_c_nw (h : am_H) (o c : am_C) (r : am_H) : (h ++ (o :: r)) ++ [c] = h ++ (o :: (r ++ [c])) := by
  rw [List.append_assoc]
  rfl
theorem x_c_len {h : am_H} (hl : h.length = 27) (o : am_C) (r : am_H) : (h ++ (o :: r)).length = 28 + r.length := by
  rw [List.length_append, hl]
  show 27 + (r.length + 1) = _
  omega
def x_cc0 : Nat → Nat := fun p => if p = 7 then 5 else 0
def x_aa0 : Nat → Nat → Int32 := fun p => if p = 13 then upd (upd (upd (upd (fun _ => 0) 0 (-9)) 1 (-9)) 2 (-9)) 3 (-9) else if p = 19 then upd (upd (upd (upd (upd (upd (fun _ => 0) 0 (1)) 1 (1)) 2 (1)) 3 (1)) 4 (1)) 5 (1) else fun _ => 0
def x_m0 : List Value := [.int 0, .null, .int 0, .int 0, .null, .null, .null, .int 0, .int 0, .null, .null, .null, .null, .null, .null, .null, .int 0, .null, .null, .null, .int 0, .null, .null, .null, .null, .null, .null, .null, .int 0, .null, .null, .int 0, .null, .null, .null, .null, .null, .null, .int 0, .null, .null, .null, .null, .null, .null, .int 0, .null]
theorem c102 (h : am_H) (hl : h.length = 27) : am_ev 102 [.ref 27] (h ++ [.inr (11, x_m0)]) (fun v h1 => v = none ∧ h1 = h ++ mw_all x_cc0 x_aa0) := by
  show am_wp _ (_, [_, _], _) _ _
  refine w_aload_n s102_0 rfl ?_
  refine w_oini s102_1 ro102 rfl ?_
  refine w_aload_n s102_4 rfl ?_
  refine w_bipush (v := 6) s102_5 rfl ?_
  refine w_nwi (n := 6) s102_7 (by omega) ?_
  rw [x_c_nw h, x_c_len hl]
  show am_wp _ (_, _, Value.ref 28 :: _) _ _
  refine w_putf s102_9 (by decide +kernel) (x_c_at hl _ _) rfl rfl ?_
  rw [x_c_set hl]
  refine w_aload_n s102_12 rfl ?_
  refine w_bipush (v := 10) s102_13 rfl ?_
  refine w_nwi (n := 10) s102_15 (by omega) ?_
  rw [x_c_nw h, x_c_len hl]
  show am_wp _ (_, _, Value.ref 29 :: _) _ _
  refine w_putf s102_17 (by decide +kernel) (x_c_at hl _ _) rfl rfl ?_
  rw [x_c_set hl]
  refine w_aload_n s102_20 rfl ?_
  refine w_bipush (v := 10) s102_21 rfl ?_
  refine w_nwi (n := 10) s102_23 (by omega) ?_
  rw [x_c_nw h, x_c_len hl]
  show am_wp _ (_, _, Value.ref 30 :: _) _ _
  refine w_putf s102_25 (by decide +kernel) (x_c_at hl _ _) rfl rfl ?_
  rw [x_c_set hl]
  refine w_aload_n s102_28 rfl ?_
  refine w_bipush (v := 10) s102_29 rfl ?_
  refine w_nwi (n := 10) s102_31 (by omega) ?_
  rw [x_c_nw h, x_c_len hl]
  show am_wp _ (_, _, Value.ref 31 :: _) _ _
  refine w_putf s102_33 (by decide +kernel) (x_c_at hl _ _) rfl rfl ?_
  rw [x_c_set hl]
  refine w_aload_n s102_36 rfl ?_
  refine w_iconst (v := 5) s102_37 rfl ?_
  refine w_putf s102_38 (by decide +kernel) (x_c_at hl _ _) rfl rfl ?_
  rw [x_c_set hl]
  refine w_aload_n s102_41 rfl ?_
  refine w_bipush (v := 40) s102_42 rfl ?_
  refine w_nwi (n := 40) s102_44 (by omega) ?_
  rw [x_c_nw h, x_c_len hl]
  show am_wp _ (_, _, Value.ref 32 :: _) _ _
  refine w_putf s102_46 (by decide +kernel) (x_c_at hl _ _) rfl rfl ?_
  rw [x_c_set hl]
  refine w_aload_n s102_49 rfl ?_
  refine w_bipush (v := 40) s102_50 rfl ?_
  refine w_nwi (n := 40) s102_52 (by omega) ?_
  rw [x_c_nw h, x_c_len hl]
  show am_wp _ (_, _, Value.ref 33 :: _) _ _
  refine w_putf s102_54 (by decide +kernel) (x_c_at hl _ _) rfl rfl ?_
  rw [x_c_set hl]
  refine w_aload_n s102_57 rfl ?_
  refine w_bipush (v := 40) s102_58 rfl ?_
  refine w_nwi (n := 40) s102_60 (by omega) ?_
  rw [x_c_nw h, x_c_len hl]
  show am_wp _ (_, _, Value.ref 34 :: _) _ _
  refine w_putf s102_62 (by decide +kernel) (x_c_at hl _ _) rfl rfl ?_
  rw [x_c_set hl]
  refine w_aload_n s102_65 rfl ?_
  refine w_bipush (v := 40) s102_66 rfl ?_
  refine w_nwi (n := 40) s102_68 (by omega) ?_
  rw [x_c_nw h, x_c_len hl]
  show am_wp _ (_, _, Value.ref 35 :: _) _ _
  refine w_putf s102_70 (by decide +kernel) (x_c_at hl _ _) rfl rfl ?_
  rw [x_c_set hl]
  refine w_aload_n s102_73 rfl ?_
  refine w_iconst (v := 4) s102_74 rfl ?_
  refine w_nwi (n := 4) s102_75 (by omega) ?_
  rw [x_c_nw h, x_c_len hl]
  show am_wp _ (_, _, Value.ref 36 :: _) _ _
  refine w_putf s102_77 (by decide +kernel) (x_c_at hl _ _) rfl rfl ?_
  rw [x_c_set hl]
  refine w_aload_n s102_80 rfl ?_
  refine w_sipush (v := 320) s102_81 rfl ?_
  refine w_nwi (n := 320) s102_84 (by omega) ?_
  rw [x_c_nw h, x_c_len hl]
  show am_wp _ (_, _, Value.ref 37 :: _) _ _
  refine w_putf s102_86 (by decide +kernel) (x_c_at hl _ _) rfl rfl ?_
  rw [x_c_set hl]
  refine w_aload_n s102_89 rfl ?_
  refine w_bipush (v := 80) s102_90 rfl ?_
  refine w_nwi (n := 80) s102_92 (by omega) ?_
  rw [x_c_nw h, x_c_len hl]
  show am_wp _ (_, _, Value.ref 38 :: _) _ _
  refine w_putf s102_94 (by decide +kernel) (x_c_at hl _ _) rfl rfl ?_
  rw [x_c_set hl]
  refine w_aload_n s102_97 rfl ?_
  refine w_bipush (v := 16) s102_98 rfl ?_
  refine w_nwi (n := 16) s102_100 (by omega) ?_
  rw [x_c_nw h, x_c_len hl]
  show am_wp _ (_, _, Value.ref 39 :: _) _ _
  refine w_putf s102_102 (by decide +kernel) (x_c_at hl _ _) rfl rfl ?_
  rw [x_c_set hl]
  refine w_aload_n s102_105 rfl ?_
  refine w_sipush (v := 192) s102_106 rfl ?_
  refine w_nwi (n := 192) s102_109 (by omega) ?_
  rw [x_c_nw h, x_c_len hl]
  show am_wp _ (_, _, Value.ref 40 :: _) _ _
  refine w_putf s102_111 (by decide +kernel) (x_c_at hl _ _) rfl rfl ?_
  rw [x_c_set hl]
  refine w_aload_n s102_114 rfl ?_
  refine w_bipush (v := 6) s102_115 rfl ?_
  refine w_nwi (n := 6) s102_117 (by omega) ?_
  rw [x_c_nw h, x_c_len hl]
  show am_wp _ (_, _, Value.ref 41 :: _) _ _
  refine w_putf s102_119 (by decide +kernel) (x_c_at hl _ _) rfl rfl ?_
  rw [x_c_set hl]
  refine w_aload_n s102_122 rfl ?_
  refine w_bipush (v := 40) s102_123 rfl ?_
  refine w_nwi (n := 40) s102_125 (by omega) ?_
  rw [x_c_nw h, x_c_len hl]
  show am_wp _ (_, _, Value.ref 42 :: _) _ _
  refine w_putf s102_127 (by decide +kernel) (x_c_at hl _ _) rfl rfl ?_
  rw [x_c_set hl]
  refine w_aload_n s102_130 rfl ?_
  refine w_bipush (v := 40) s102_131 rfl ?_
  refine w_nwi (n := 40) s102_133 (by omega) ?_
  rw [x_c_nw h, x_c_len hl]
  show am_wp _ (_, _, Value.ref 43 :: _) _ _
  refine w_putf s102_135 (by decide +kernel) (x_c_at hl _ _) rfl rfl ?_
  rw [x_c_set hl]
  refine w_aload_n s102_138 rfl ?_
  refine w_bipush (v := 40) s102_139 rfl ?_
  refine w_nwi (n := 40) s102_141 (by omega) ?_
  rw [x_c_nw h, x_c_len hl]
  show am_wp _ (_, _, Value.ref 44 :: _) _ _
  refine w_putf s102_143 (by decide +kernel) (x_c_at hl _ _) rfl rfl ?_
  rw [x_c_set hl]
  refine w_aload_n s102_146 rfl ?_
  refine w_bipush (v := 40) s102_147 rfl ?_
  refine w_nwi (n := 40) s102_149 (by omega) ?_
  rw [x_c_nw h, x_c_len hl]
  show am_wp _ (_, _, Value.ref 45 :: _) _ _
  refine w_putf s102_151 (by decide +kernel) (x_c_at hl _ _) rfl rfl ?_
  rw [x_c_set hl]
  refine w_aload_n s102_154 rfl ?_
  refine w_bipush (v := 40) s102_155 rfl ?_
  refine w_nwi (n := 40) s102_157 (by omega) ?_
  rw [x_c_nw h, x_c_len hl]
  show am_wp _ (_, _, Value.ref 46 :: _) _ _
  refine w_putf s102_159 (by decide +kernel) (x_c_at hl _ _) rfl rfl ?_
  rw [x_c_set hl]
  refine w_aload_n s102_162 rfl ?_
  refine w_bipush (v := 40) s102_163 rfl ?_
  refine w_nwi (n := 40) s102_165 (by omega) ?_
  rw [x_c_nw h, x_c_len hl]
  show am_wp _ (_, _, Value.ref 47 :: _) _ _
  refine w_putf s102_167 (by decide +kernel) (x_c_at hl _ _) rfl rfl ?_
  rw [x_c_set hl]
  refine w_aload_n s102_170 rfl ?_
  refine w_bipush (v := 40) s102_171 rfl ?_
  refine w_nwz (n := 40) s102_173 (by omega) ?_
  rw [x_c_nw h, x_c_len hl]
  show am_wp _ (_, _, Value.ref 48 :: _) _ _
  refine w_putf s102_175 (by decide +kernel) (x_c_at hl _ _) rfl rfl ?_
  rw [x_c_set hl]
  refine w_aload_n s102_178 rfl ?_
  refine w_bipush (v := 6) s102_179 rfl ?_
  refine w_nwi (n := 6) s102_181 (by omega) ?_
  rw [x_c_nw h, x_c_len hl]
  show am_wp _ (_, _, Value.ref 49 :: _) _ _
  refine w_putf s102_183 (by decide +kernel) (x_c_at hl _ _) rfl rfl ?_
  rw [x_c_set hl]
  refine w_aload_n s102_186 rfl ?_
  refine w_bipush (v := 6) s102_187 rfl ?_
  refine w_nwi (n := 6) s102_189 (by omega) ?_
  rw [x_c_nw h, x_c_len hl]
  show am_wp _ (_, _, Value.ref 50 :: _) _ _
  refine w_putf s102_191 (by decide +kernel) (x_c_at hl _ _) rfl rfl ?_
  rw [x_c_set hl]
  refine w_aload_n s102_194 rfl ?_
  refine w_sipush (v := 400) s102_195 rfl ?_
  refine w_nwi (n := 400) s102_198 (by omega) ?_
  rw [x_c_nw h, x_c_len hl]
  show am_wp _ (_, _, Value.ref 51 :: _) _ _
  refine w_putf s102_200 (by decide +kernel) (x_c_at hl _ _) rfl rfl ?_
  rw [x_c_set hl]
  refine w_aload_n s102_203 rfl ?_
  refine w_sipush (v := 400) s102_204 rfl ?_
  refine w_nwi (n := 400) s102_207 (by omega) ?_
  rw [x_c_nw h, x_c_len hl]
  show am_wp _ (_, _, Value.ref 52 :: _) _ _
  refine w_putf s102_209 (by decide +kernel) (x_c_at hl _ _) rfl rfl ?_
  rw [x_c_set hl]
  refine w_aload_n s102_212 rfl ?_
  refine w_sipush (v := 400) s102_213 rfl ?_
  refine w_nwi (n := 400) s102_216 (by omega) ?_
  rw [x_c_nw h, x_c_len hl]
  show am_wp _ (_, _, Value.ref 53 :: _) _ _
  refine w_putf s102_218 (by decide +kernel) (x_c_at hl _ _) rfl rfl ?_
  rw [x_c_set hl]
  refine w_aload_n s102_221 rfl ?_
  refine w_sipush (v := 400) s102_222 rfl ?_
  refine w_nwi (n := 400) s102_225 (by omega) ?_
  rw [x_c_nw h, x_c_len hl]
  show am_wp _ (_, _, Value.ref 54 :: _) _ _
  refine w_putf s102_227 (by decide +kernel) (x_c_at hl _ _) rfl rfl ?_
  rw [x_c_set hl]
  refine w_aload_n s102_230 rfl ?_
  refine w_sipush (v := 400) s102_231 rfl ?_
  refine w_nwi (n := 400) s102_234 (by omega) ?_
  rw [x_c_nw h, x_c_len hl]
  show am_wp _ (_, _, Value.ref 55 :: _) _ _
  refine w_putf s102_236 (by decide +kernel) (x_c_at hl _ _) rfl rfl ?_
  rw [x_c_set hl]
  refine w_aload_n s102_239 rfl ?_
  refine w_sipush (v := 400) s102_240 rfl ?_
  refine w_nwi (n := 400) s102_243 (by omega) ?_
  rw [x_c_nw h, x_c_len hl]
  show am_wp _ (_, _, Value.ref 56 :: _) _ _
  refine w_putf s102_245 (by decide +kernel) (x_c_at hl _ _) rfl rfl ?_
  rw [x_c_set hl]
  refine w_aload_n s102_248 rfl ?_
  refine w_bipush (v := 60) s102_249 rfl ?_
  refine w_nwi (n := 60) s102_251 (by omega) ?_
  rw [x_c_nw h, x_c_len hl]
  show am_wp _ (_, _, Value.ref 57 :: _) _ _
  refine w_putf s102_253 (by decide +kernel) (x_c_at hl _ _) rfl rfl ?_
  rw [x_c_set hl]
  refine w_aload_n s102_256 rfl ?_
  refine w_bipush (v := 60) s102_257 rfl ?_
  refine w_nwi (n := 60) s102_259 (by omega) ?_
  rw [x_c_nw h, x_c_len hl]
  show am_wp _ (_, _, Value.ref 58 :: _) _ _
  refine w_putf s102_261 (by decide +kernel) (x_c_at hl _ _) rfl rfl ?_
  rw [x_c_set hl]
  refine w_aload_n s102_264 rfl ?_
  refine w_bipush (v := 60) s102_265 rfl ?_
  refine w_nwi (n := 60) s102_267 (by omega) ?_
  rw [x_c_nw h, x_c_len hl]
  show am_wp _ (_, _, Value.ref 59 :: _) _ _
  refine w_putf s102_269 (by decide +kernel) (x_c_at hl _ _) rfl rfl ?_
  rw [x_c_set hl]
  refine w_aload_n s102_272 rfl ?_
  refine w_bipush (v := 60) s102_273 rfl ?_
  refine w_nwi (n := 60) s102_275 (by omega) ?_
  rw [x_c_nw h, x_c_len hl]
  show am_wp _ (_, _, Value.ref 60 :: _) _ _
  refine w_putf s102_277 (by decide +kernel) (x_c_at hl _ _) rfl rfl ?_
  rw [x_c_set hl]
  refine w_aload_n s102_280 rfl ?_
  refine w_bipush (v := 60) s102_281 rfl ?_
  refine w_nwi (n := 60) s102_283 (by omega) ?_
  rw [x_c_nw h, x_c_len hl]
  show am_wp _ (_, _, Value.ref 61 :: _) _ _
  refine w_putf s102_285 (by decide +kernel) (x_c_at hl _ _) rfl rfl ?_
  rw [x_c_set hl]
  refine w_aload_n s102_288 rfl ?_
  refine w_sipush (v := 10240) s102_289 rfl ?_
  refine w_nwi (n := 10240) s102_292 (by omega) ?_
  rw [x_c_nw h, x_c_len hl]
  show am_wp _ (_, _, Value.ref 62 :: _) _ _
  refine w_putf s102_294 (by decide +kernel) (x_c_at hl _ _) rfl rfl ?_
  rw [x_c_set hl]
  refine w_aload_n s102_297 rfl ?_
  refine w_bipush (v := 10) s102_298 rfl ?_
  refine w_nwi (n := 10) s102_300 (by omega) ?_
  rw [x_c_nw h, x_c_len hl]
  show am_wp _ (_, _, Value.ref 63 :: _) _ _
  refine w_putf s102_302 (by decide +kernel) (x_c_at hl _ _) rfl rfl ?_
  rw [x_c_set hl]
  refine w_iconst (v := 0) s102_305 rfl ?_
  refine w_istore_n s102_306 rfl ?_
  show am_wp _ (_, [_, _], _) _ _
  refine w_iload_n s102_307 rfl ?_
  refine w_iconst (v := 4) s102_308 rfl ?_
  refine w_icmpge s102_309 rfl  (fun c => absurd c (by decide)) (fun c309 => ?_)
  refine w_aload_n s102_312 rfl ?_
  refine w_getf s102_313 (x_c_at hl _ _) rfl ?_
  refine w_iload_n s102_316 rfl ?_
  refine w_bipush (v := (-9)) s102_317 rfl ?_
  refine w_iastN (y := 0) (x := 36) s102_319 ((x_c_ar hl _ _ 8).trans rfl) (by decide) (by decide) ?_
  rw [show (36 : Nat) = 28 + 8 from rfl, x_c_st hl]
  refine w_iinc s102_320 rfl (show (0 : Int32) + Int32.ofInt 1 = 1 from rfl) rfl ?_
  show am_wp _ (_, [_, _], _) _ _
  refine w_goto s102_323 rfl ?_
  refine w_iload_n s102_307 rfl ?_
  refine w_iconst (v := 4) s102_308 rfl ?_
  refine w_icmpge s102_309 rfl  (fun c => absurd c (by decide)) (fun c309 => ?_)
  refine w_aload_n s102_312 rfl ?_
  refine w_getf s102_313 (x_c_at hl _ _) rfl ?_
  refine w_iload_n s102_316 rfl ?_
  refine w_bipush (v := (-9)) s102_317 rfl ?_
  refine w_iastN (y := 1) (x := 36) s102_319 ((x_c_ar hl _ _ 8).trans rfl) (by decide) (by decide) ?_
  rw [show (36 : Nat) = 28 + 8 from rfl, x_c_st hl]
  refine w_iinc s102_320 rfl (show (1 : Int32) + Int32.ofInt 1 = 2 from rfl) rfl ?_
  show am_wp _ (_, [_, _], _) _ _
  refine w_goto s102_323 rfl ?_
  refine w_iload_n s102_307 rfl ?_
  refine w_iconst (v := 4) s102_308 rfl ?_
  refine w_icmpge s102_309 rfl  (fun c => absurd c (by decide)) (fun c309 => ?_)
  refine w_aload_n s102_312 rfl ?_
  refine w_getf s102_313 (x_c_at hl _ _) rfl ?_
  refine w_iload_n s102_316 rfl ?_
  refine w_bipush (v := (-9)) s102_317 rfl ?_
  refine w_iastN (y := 2) (x := 36) s102_319 ((x_c_ar hl _ _ 8).trans rfl) (by decide) (by decide) ?_
  rw [show (36 : Nat) = 28 + 8 from rfl, x_c_st hl]
  refine w_iinc s102_320 rfl (show (2 : Int32) + Int32.ofInt 1 = 3 from rfl) rfl ?_
  show am_wp _ (_, [_, _], _) _ _
  refine w_goto s102_323 rfl ?_
  refine w_iload_n s102_307 rfl ?_
  refine w_iconst (v := 4) s102_308 rfl ?_
  refine w_icmpge s102_309 rfl  (fun c => absurd c (by decide)) (fun c309 => ?_)
  refine w_aload_n s102_312 rfl ?_
  refine w_getf s102_313 (x_c_at hl _ _) rfl ?_
  refine w_iload_n s102_316 rfl ?_
  refine w_bipush (v := (-9)) s102_317 rfl ?_
  refine w_iastN (y := 3) (x := 36) s102_319 ((x_c_ar hl _ _ 8).trans rfl) (by decide) (by decide) ?_
  rw [show (36 : Nat) = 28 + 8 from rfl, x_c_st hl]
  refine w_iinc s102_320 rfl (show (3 : Int32) + Int32.ofInt 1 = 4 from rfl) rfl ?_
  show am_wp _ (_, [_, _], _) _ _
  refine w_goto s102_323 rfl ?_
  refine w_iload_n s102_307 rfl ?_
  refine w_iconst (v := 4) s102_308 rfl ?_
  refine w_icmpge s102_309 rfl  (fun c309 => ?_) (fun c => absurd c (by decide))
  refine w_iconst (v := 0) s102_326 rfl ?_
  refine w_istore_n s102_327 rfl ?_
  show am_wp _ (_, [_, _], _) _ _
  refine w_iload_n s102_328 rfl ?_
  refine w_bipush (v := 6) s102_329 rfl ?_
  refine w_icmpge s102_331 rfl  (fun c => absurd c (by decide)) (fun c331 => ?_)
  refine w_aload_n s102_334 rfl ?_
  refine w_getf s102_335 (x_c_at hl _ _) rfl ?_
  refine w_iload_n s102_338 rfl ?_
  refine w_iconst (v := 1) s102_339 rfl ?_
  refine w_iastN (y := 0) (x := 41) s102_340 ((x_c_ar hl _ _ 13).trans rfl) (by decide) (by decide) ?_
  rw [show (41 : Nat) = 28 + 13 from rfl, x_c_st hl]
  refine w_iinc s102_341 rfl (show (0 : Int32) + Int32.ofInt 1 = 1 from rfl) rfl ?_
  show am_wp _ (_, [_, _], _) _ _
  refine w_goto s102_344 rfl ?_
  refine w_iload_n s102_328 rfl ?_
  refine w_bipush (v := 6) s102_329 rfl ?_
  refine w_icmpge s102_331 rfl  (fun c => absurd c (by decide)) (fun c331 => ?_)
  refine w_aload_n s102_334 rfl ?_
  refine w_getf s102_335 (x_c_at hl _ _) rfl ?_
  refine w_iload_n s102_338 rfl ?_
  refine w_iconst (v := 1) s102_339 rfl ?_
  refine w_iastN (y := 1) (x := 41) s102_340 ((x_c_ar hl _ _ 13).trans rfl) (by decide) (by decide) ?_
  rw [show (41 : Nat) = 28 + 13 from rfl, x_c_st hl]
  refine w_iinc s102_341 rfl (show (1 : Int32) + Int32.ofInt 1 = 2 from rfl) rfl ?_
  show am_wp _ (_, [_, _], _) _ _
  refine w_goto s102_344 rfl ?_
  refine w_iload_n s102_328 rfl ?_
  refine w_bipush (v := 6) s102_329 rfl ?_
  refine w_icmpge s102_331 rfl  (fun c => absurd c (by decide)) (fun c331 => ?_)
  refine w_aload_n s102_334 rfl ?_
  refine w_getf s102_335 (x_c_at hl _ _) rfl ?_
  refine w_iload_n s102_338 rfl ?_
  refine w_iconst (v := 1) s102_339 rfl ?_
  refine w_iastN (y := 2) (x := 41) s102_340 ((x_c_ar hl _ _ 13).trans rfl) (by decide) (by decide) ?_
  rw [show (41 : Nat) = 28 + 13 from rfl, x_c_st hl]
  refine w_iinc s102_341 rfl (show (2 : Int32) + Int32.ofInt 1 = 3 from rfl) rfl ?_
  show am_wp _ (_, [_, _], _) _ _
  refine w_goto s102_344 rfl ?_
  refine w_iload_n s102_328 rfl ?_
  refine w_bipush (v := 6) s102_329 rfl ?_
  refine w_icmpge s102_331 rfl  (fun c => absurd c (by decide)) (fun c331 => ?_)
  refine w_aload_n s102_334 rfl ?_
  refine w_getf s102_335 (x_c_at hl _ _) rfl ?_
  refine w_iload_n s102_338 rfl ?_
  refine w_iconst (v := 1) s102_339 rfl ?_
  refine w_iastN (y := 3) (x := 41) s102_340 ((x_c_ar hl _ _ 13).trans rfl) (by decide) (by decide) ?_
  rw [show (41 : Nat) = 28 + 13 from rfl, x_c_st hl]
  refine w_iinc s102_341 rfl (show (3 : Int32) + Int32.ofInt 1 = 4 from rfl) rfl ?_
  show am_wp _ (_, [_, _], _) _ _
  refine w_goto s102_344 rfl ?_
  refine w_iload_n s102_328 rfl ?_
  refine w_bipush (v := 6) s102_329 rfl ?_
  refine w_icmpge s102_331 rfl  (fun c => absurd c (by decide)) (fun c331 => ?_)
  refine w_aload_n s102_334 rfl ?_
  refine w_getf s102_335 (x_c_at hl _ _) rfl ?_
  refine w_iload_n s102_338 rfl ?_
  refine w_iconst (v := 1) s102_339 rfl ?_
  refine w_iastN (y := 4) (x := 41) s102_340 ((x_c_ar hl _ _ 13).trans rfl) (by decide) (by decide) ?_
  rw [show (41 : Nat) = 28 + 13 from rfl, x_c_st hl]
  refine w_iinc s102_341 rfl (show (4 : Int32) + Int32.ofInt 1 = 5 from rfl) rfl ?_
  show am_wp _ (_, [_, _], _) _ _
  refine w_goto s102_344 rfl ?_
  refine w_iload_n s102_328 rfl ?_
  refine w_bipush (v := 6) s102_329 rfl ?_
  refine w_icmpge s102_331 rfl  (fun c => absurd c (by decide)) (fun c331 => ?_)
  refine w_aload_n s102_334 rfl ?_
  refine w_getf s102_335 (x_c_at hl _ _) rfl ?_
  refine w_iload_n s102_338 rfl ?_
  refine w_iconst (v := 1) s102_339 rfl ?_
  refine w_iastN (y := 5) (x := 41) s102_340 ((x_c_ar hl _ _ 13).trans rfl) (by decide) (by decide) ?_
  rw [show (41 : Nat) = 28 + 13 from rfl, x_c_st hl]
  refine w_iinc s102_341 rfl (show (5 : Int32) + Int32.ofInt 1 = 6 from rfl) rfl ?_
  show am_wp _ (_, [_, _], _) _ _
  refine w_goto s102_344 rfl ?_
  refine w_iload_n s102_328 rfl ?_
  refine w_bipush (v := 6) s102_329 rfl ?_
  refine w_icmpge s102_331 rfl  (fun c331 => ?_) (fun c => absurd c (by decide))
  refine w_vret s102_347 rk102 ?_
  exact ⟨rfl, rfl⟩
