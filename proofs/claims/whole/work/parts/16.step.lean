/-! a step of the small machine is a step of the big one -/
theorem am_dec {cc : ByteArray} {pc : Nat} {i : Instr} (hs : am_sw i = false) (h : am_dok cc pc i = true) : decode cc pc = .ok (i, am_len i) := by
  unfold am_dok at h
  split at h
  · rename_i j n e
    simp only [Bool.and_eq_true, decide_eq_true_eq] at h
    obtain ⟨h1, h2⟩ := h
    subst h1
    rw [hs, Bool.false_or] at h2
    rw [e, eq_of_beq h2]
  · cases h
theorem am_decS {cc : ByteArray} {pc : Nat} {i : Instr} (h : am_dok cc pc i = true) : ∃ n, decode cc pc = .ok (i, n) := by
  unfold am_dok at h
  split at h
  · rename_i j n e
    simp only [Bool.and_eq_true, decide_eq_true_eq] at h
    obtain ⟨h1, h2⟩ := h
    subst h1
    exact ⟨n, e⟩
  · cases h
theorem am_fok_i {own idx a b q : Nat} {z : Int} (h : am_fok own idx a b q z = true) : ∃ r, vwCl[a]? = some r ∧ b < r.2.2 ∧ ((z = 0 ∧ am_w q (.fieldLink (am_cnm own) idx (r.2.1 b).1 (r.2.1 b).2.1 (r.2.1 b).2.2.1) = true) ∨ (z = 1 ∧ am_w q (.fieldLinkNest (am_cnm own) idx (r.2.1 b).1 (r.2.1 b).2.1 (r.2.1 b).2.2.1 "CriersOffice") = true) ∨ ((¬ z = 0 ∧ ¬ z = 1) ∧ am_w q (.fieldLink (am_cnm own) idx RJx4a65c (r.2.1 b).2.1 (r.2.1 b).2.2.1) = true ∧ am_w 98 (.sameField RJx4a65c (r.2.1 b).1 (r.2.1 b).2.1 (r.2.1 b).2.2.1) = true)) := by
  unfold am_fok at h
  split at h
  · rename_i C T N e
    simp only [Bool.and_eq_true, decide_eq_true_eq] at h
    refine ⟨_, e, h.1, ?_⟩
    have h2 := h.2
    split at h2
    · rename_i hz
      exact Or.inl ⟨hz, h2⟩
    · rename_i hz
      split at h2
      · rename_i hz1
        exact Or.inr (Or.inl ⟨hz1, h2⟩)
      · rename_i hz1
        simp only [Bool.and_eq_true] at h2
        exact Or.inr (Or.inr ⟨⟨hz, hz1⟩, h2.1, h2.2⟩)
  · cases h
theorem am_pok_i {own a b : Nat} {z : Int} {r : vw_C} (hr : vwCl[a]? = some r) (h : am_pok own a b z = true) : am_fin a b = (r.2.1 b).2.2.2 ∧ ((r.2.1 b).2.2.2 = true → z = 0 ∧ (r.2.1 b).1 = am_cnm own) := by
  unfold am_pok at h
  unfold am_fin
  rw [hr] at h ⊢
  refine ⟨rfl, fun hf => ?_⟩
  have h2 : (if (r.2.1 b).2.2.2 = true then decide (z = 0 ∧ (r.2.1 b).1 = am_cnm own) else true) = true := h
  rw [if_pos hf] at h2
  exact of_decide_eq_true h2
theorem am_mok_i {own idx a b q : Nat} {z : Int} {st ini : Bool} (h : am_mok own idx a b q z st ini = true) : ∃ Y, am_my[a - 10]? = some Y ∧ 10 ≤ a ∧ ((z = 0 ∧ am_w q (.methodLink (am_cnm own) idx Y.1) = true) ∨ (¬ z = 0 ∧ am_w q (.methodLinkNest (am_cnm own) idx Y.1 "CriersOffice") = true)) ∧ Y.2.2.2.1 = b ∧ Y.2.2.2.2.1 = st ∧ ((Y.1.name = "<init>") = (ini = true)) := by
  unfold am_mok at h
  split at h
  · rename_i Y e
    simp only [Bool.and_eq_true, decide_eq_true_eq] at h
    obtain ⟨⟨⟨⟨h1, h2⟩, h3⟩, h4⟩, h5⟩ := h
    refine ⟨Y, e, h1, ?_, h3, h4, h5⟩
    split at h2
    · rename_i hz
      exact Or.inl ⟨hz, h2⟩
    · rename_i hz
      exact Or.inr ⟨hz, h2⟩
  · cases h
def am_Cx (p : Program) (s : State) (m : MethodId) (args : Array Value) (meth : Method) (c : Code) (R : Room) (G : am_G) (M : am_M) (Y : am_Y) : Prop := p.tables.exec = Jvm.exec ∧ c.code = Y.2.1 ∧ c.maxLocals = M.2.2.2.1 ∧ s.vm.findClass (am_cnm M.1) = some m.cls ∧ am_K G s ∧ am_E G s ∧ (M.2.1 = true → meth.name = "<init>") ∧ M.2.2.2.2.1 ≤ R.frames ∧ M.2.2.2.2.2.1 ≤ R.locals
theorem am_st1_len {ls ls' : am_L} {i : Nat} {v : Value} (h : am_st1 ls i v = some ls') : ls'.length = ls.length := by
  obtain ⟨-, -, rfl⟩ := am_st1_inv h
  exact List.length_set
theorem am_st2_len {ls ls' : am_L} {i : Nat} {v : Value} (h : am_st2 ls i v = some ls') : ls'.length = ls.length := by
  obtain ⟨-, -, rfl⟩ := am_st2_inv h
  rw [List.length_set, List.length_set]
def am_Kp (ls ls' : am_L) (h h' : am_H) : Prop := ls'.length = ls.length ∧ h.length ≤ h'.length ∧ am_sz h ≤ am_sz h'
theorem am_Kp.rf (ls : am_L) (h : am_H) : am_Kp ls ls h h := ⟨rfl, Nat.le_refl _, Nat.le_refl _⟩
theorem am_Kp.st {ls : am_L} {h : am_H} {k : Nat} {x y : am_C} (hk : h[k]? = some x) (hs : am_sl y = am_sl x) : am_Kp ls ls h (h.set k y) := ⟨rfl, by rw [List.length_set]; exact Nat.le_refl _, by rw [am_sz_set hk hs]; exact Nat.le_refl _⟩
theorem am_Kp.ps (ls : am_L) (h : am_H) (y : am_C) : am_Kp ls ls h (h ++ [y]) := ⟨rfl, by simp, by rw [am_sz_push]; omega⟩
theorem am_keep {M : am_M} {r : am_R} {pc : Nat} {ls : am_L} {st : List Value} {h : am_H} {q : am_F × am_H} (e : am_step M r pc ls st h = some (.inl q)) : am_Kp ls q.1.2.1 h q.2 := by
  obtain ⟨i, a, b, w, z⟩ := r
  cases i with
  | iconst k =>
    unfold am_step am_nx at e
    cases e
    exact am_Kp.rf _ _
  | bipush k =>
    unfold am_step am_nx at e
    cases e
    exact am_Kp.rf _ _
  | sipush k =>
    unfold am_step am_nx at e
    cases e
    exact am_Kp.rf _ _
  | lconst k =>
    unfold am_step am_nx at e
    cases e
    exact am_Kp.rf _ _
  | aconst_null =>
    unfold am_step am_nx at e
    cases e
    exact am_Kp.rf _ _
  | iload_n k =>
    obtain ⟨x, hl, e1⟩ := am_ldI_i e
    cases e1
    exact am_Kp.rf _ _
  | iload k =>
    obtain ⟨x, hl, e1⟩ := am_ldI_i e
    cases e1
    exact am_Kp.rf _ _
  | istore_n k =>
    obtain ⟨x, r, ls', rfl, hs, e1⟩ := am_stI_i e
    cases e1
    exact ⟨am_st1_len hs, Nat.le_refl _, Nat.le_refl _⟩
  | istore k =>
    obtain ⟨x, r, ls', rfl, hs, e1⟩ := am_stI_i e
    cases e1
    exact ⟨am_st1_len hs, Nat.le_refl _, Nat.le_refl _⟩
  | lload_n k =>
    obtain ⟨x, hl, e1⟩ := am_ldL_i e
    cases e1
    exact am_Kp.rf _ _
  | lload k =>
    obtain ⟨x, hl, e1⟩ := am_ldL_i e
    cases e1
    exact am_Kp.rf _ _
  | lstore_n k =>
    obtain ⟨x, r, ls', rfl, hs, e1⟩ := am_stL_i e
    cases e1
    exact ⟨am_st2_len hs, Nat.le_refl _, Nat.le_refl _⟩
  | lstore k =>
    obtain ⟨x, r, ls', rfl, hs, e1⟩ := am_stL_i e
    cases e1
    exact ⟨am_st2_len hs, Nat.le_refl _, Nat.le_refl _⟩
  | aload_n k =>
    obtain ⟨x, hl, e1⟩ := am_ldA_i e
    cases e1
    exact am_Kp.rf _ _
  | aload k =>
    obtain ⟨x, hl, e1⟩ := am_ldA_i e
    cases e1
    exact am_Kp.rf _ _
  | astore_n k =>
    obtain ⟨x, r, ls', rfl, hs, e1⟩ := am_stA_i e
    cases e1
    exact ⟨am_st1_len hs, Nat.le_refl _, Nat.le_refl _⟩
  | astore k =>
    obtain ⟨x, r, ls', rfl, hs, e1⟩ := am_stA_i e
    cases e1
    exact ⟨am_st1_len hs, Nat.le_refl _, Nat.le_refl _⟩
  | iinc i k =>
    obtain ⟨x, ls', hl, hs, e1⟩ := am_inc_i e
    cases e1
    exact ⟨am_st1_len hs, Nat.le_refl _, Nat.le_refl _⟩
  | iadd =>
    obtain ⟨x, y, r, rfl, e1⟩ := am_b2_i e
    cases e1
    exact am_Kp.rf _ _
  | isub =>
    obtain ⟨x, y, r, rfl, e1⟩ := am_b2_i e
    cases e1
    exact am_Kp.rf _ _
  | imul =>
    obtain ⟨x, y, r, rfl, e1⟩ := am_b2_i e
    cases e1
    exact am_Kp.rf _ _
  | iand =>
    obtain ⟨x, y, r, rfl, e1⟩ := am_b2_i e
    cases e1
    exact am_Kp.rf _ _
  | ior =>
    obtain ⟨x, y, r, rfl, e1⟩ := am_b2_i e
    cases e1
    exact am_Kp.rf _ _
  | ixor =>
    obtain ⟨x, y, r, rfl, e1⟩ := am_b2_i e
    cases e1
    exact am_Kp.rf _ _
  | ishl =>
    obtain ⟨x, y, r, rfl, e1⟩ := am_b2_i e
    cases e1
    exact am_Kp.rf _ _
  | ishr =>
    obtain ⟨x, y, r, rfl, e1⟩ := am_b2_i e
    cases e1
    exact am_Kp.rf _ _
  | iushr =>
    obtain ⟨x, y, r, rfl, e1⟩ := am_b2_i e
    cases e1
    exact am_Kp.rf _ _
  | idiv =>
    obtain ⟨x, y, r, rfl, hy, e1⟩ := am_b2z_i e
    cases e1
    exact am_Kp.rf _ _
  | irem =>
    obtain ⟨x, y, r, rfl, hy, e1⟩ := am_b2z_i e
    cases e1
    exact am_Kp.rf _ _
  | ineg =>
    obtain ⟨x, r, rfl, e1⟩ := am_u1_i e
    cases e1
    exact am_Kp.rf _ _
  | i2b =>
    obtain ⟨x, r, rfl, e1⟩ := am_u1_i e
    cases e1
    exact am_Kp.rf _ _
  | ladd =>
    obtain ⟨x, y, r, rfl, e1⟩ := am_l2_i e
    cases e1
    exact am_Kp.rf _ _
  | lmul =>
    obtain ⟨x, y, r, rfl, e1⟩ := am_l2_i e
    cases e1
    exact am_Kp.rf _ _
  | lcmp =>
    obtain ⟨x, y, r, rfl, e1⟩ := am_lcm_i e
    cases e1
    exact am_Kp.rf _ _
  | i2l =>
    obtain ⟨x, r, rfl, e1⟩ := am_i2l_i e
    cases e1
    exact am_Kp.rf _ _
  | dup =>
    obtain ⟨v, r, rfl, hv, e1⟩ := am_dup_i e
    cases e1
    exact am_Kp.rf _ _
  | pop =>
    obtain ⟨v, r, rfl, hv, e1⟩ := am_pop_i e
    cases e1
    exact am_Kp.rf _ _
  | dup_x1 =>
    obtain ⟨v, w, r, rfl, hv, e1⟩ := am_dx1_i e
    cases e1
    exact am_Kp.rf _ _
  | dup2 =>
    obtain ⟨v, w, r, rfl, hv, e1⟩ := am_du2_i e
    cases e1
    exact am_Kp.rf _ _
  | goto off =>
    obtain ⟨t, ht, e1⟩ := am_jp_i e
    cases e1
    exact am_Kp.rf _ _
  | getfield i =>
    obtain ⟨x, r, fs, v, rfl, hh, hv, e1⟩ := am_gf_i e
    cases e1
    exact am_Kp.rf _ _
  | putfield i =>
    obtain ⟨v, x, r, fs, rfl, hh, hbl, hv, hfn, e1⟩ := am_pf_i e
    cases e1
    exact am_Kp.st hh (by simp [am_sl])
  | getstatic i =>
    unfold am_step am_nx at e
    cases e
    exact am_Kp.rf _ _
  | iaload =>
    obtain ⟨i, x, r, t, n, f, rfl, hh, ht, hi, e1⟩ := am_ial_i e
    cases e1
    exact am_Kp.rf _ _
  | baload =>
    obtain ⟨i, x, r, t, n, f, rfl, hh, ht, hi, e1⟩ := am_bal_i e
    cases e1
    exact am_Kp.rf _ _
  | aaload =>
    obtain ⟨i, x, r, t, n, f, rfl, hh, ht, hi, e1⟩ := am_aal_i e
    cases e1
    exact am_Kp.rf _ _
  | iastore =>
    obtain ⟨v, i, x, r, t, n, f, rfl, hh, ht, hi, e1⟩ := am_ias_i e
    cases e1
    exact am_Kp.st hh rfl
  | bastore =>
    obtain ⟨v, i, x, r, t, n, f, rfl, hh, ht, hi, e1⟩ := am_bas_i e
    cases e1
    exact am_Kp.st hh rfl
  | aastore =>
    obtain ⟨v, i, x, r, t, n, f, ci, rfl, hh, hv, ht, hi, e1⟩ := am_aas_i e
    cases e1
    exact am_Kp.st hh rfl
  | arraylength =>
    obtain ⟨x, r, t, n, y, rfl, hh, ht, e1⟩ := am_aln_i e
    cases e1
    exact am_Kp.rf _ _
  | newarray ty =>
    obtain ⟨n, r, t, rfl, hn, hn2, ht, e1⟩ := am_nwa_i e
    cases e1
    exact am_Kp.ps _ _ _
  | anewarray i =>
    obtain ⟨n, r, rfl, hn, e1⟩ := am_anw_i e
    cases e1
    exact am_Kp.ps _ _ _
  | new i =>
    have e1 := am_new_i e
    cases e1
    exact am_Kp.ps _ _ _
  | checkcast i =>
    obtain ⟨x, r, fs, rfl, hh, e1⟩ := am_cst_i e
    cases e1
    exact am_Kp.rf _ _
  | ldc i =>
    rcases am_ldc_i e with ⟨ha, e⟩ | ⟨ha, e⟩ <;> cases e <;> exact am_Kp.rf _ _
  | ldc_w i =>
    have e2 : (if a = 0 then am_nx (pc + 3) ls (.int (Int32.ofInt z) :: st) h else none) = some (.inl q) := e
    split at e2
    · unfold am_nx at e2; cases e2; exact am_Kp.rf _ _
    · cases e2
  | ldc2_w i =>
    unfold am_step am_nx at e; cases e; exact am_Kp.rf _ _
  | ifCond k off =>
    obtain ⟨x, r, rfl, e1⟩ := am_if1_i e
    obtain ⟨t, ht, ⟨hc, e2⟩ | ⟨hc, e2⟩⟩ := am_br_i e1 <;> cases e2 <;> exact am_Kp.rf _ _
  | if_icmp k off =>
    obtain ⟨x, y, r, rfl, e1⟩ := am_if2_i e
    obtain ⟨t, ht, ⟨hc, e2⟩ | ⟨hc, e2⟩⟩ := am_br_i e1 <;> cases e2 <;> exact am_Kp.rf _ _
  | if_acmp k off =>
    obtain ⟨x, y, r, rfl, hxy, e1⟩ := am_ifa_i e
    obtain ⟨t, ht, ⟨hc, e2⟩ | ⟨hc, e2⟩⟩ := am_br_i e1 <;> cases e2 <;> exact am_Kp.rf _ _
  | tableswitch d lo hi offs =>
    obtain ⟨x, r, rfl, ⟨hc, e1⟩ | ⟨hc, off, ho, e1⟩⟩ := am_tsw_i e <;> obtain ⟨t, ht, e2⟩ := am_jp_i e1 <;> cases e2 <;> exact am_Kp.rf _ _
  | invokevirtual i =>
    rcases am_ivv_i e with ⟨ha, x, r, n, y, rfl, hh, hn, e1⟩ | ⟨mj, x, r, fs, ha, hs, hh, hb, e1⟩
    · cases e1; exact am_Kp.rf _ _
    · obtain ⟨N, -, -, -, -, -, e2⟩ := am_cl_i e1; cases e2
  | invokespecial i =>
    rcases am_ivi_i e with ⟨ha, x, r, rfl, hn, e1⟩ | ⟨ha, mj, x, r, ha2, hs, hb, e1⟩
    · cases e1; exact am_Kp.rf _ _
    · obtain ⟨N, -, -, -, -, -, e2⟩ := am_cl_i e1; cases e2
  | invokestatic i =>
    rcases am_ivs_i e with ⟨ha, n, dp, y, sp, x, r, n0, n1, f, g, rfl, hh, hh2, hn, hc, hr, e1⟩ | ⟨ha, n, dp, y, sp, x, r, n0, n1, f, g, rfl, hh, hh2, hn, hc, hr, e1⟩ | ⟨ha, x, r, rfl, hn, e1⟩ | ⟨ha, x, y, r, rfl, hn, e1⟩ | ⟨ha, x, y, r, rfl, hn, e1⟩ | ⟨mj, ha, hb, e1⟩
    · cases e1; exact am_Kp.st hh2 rfl
    · cases e1; exact am_Kp.st hh2 rfl
    · cases e1; exact am_Kp.rf _ _
    · cases e1; exact am_Kp.rf _ _
    · cases e1; exact am_Kp.rf _ _
    · obtain ⟨N, -, -, -, -, -, e2⟩ := am_cl_i e1; cases e2
  | ireturn =>
    obtain ⟨x, -, -, e1⟩ := am_rtI_i e; cases e1
  | lreturn =>
    obtain ⟨x, -, -, e1⟩ := am_rtL_i e; cases e1
  | areturn =>
    obtain ⟨x, -, -, e1⟩ := am_rtA_i e; cases e1
  | return_ =>
    obtain ⟨-, -, e1⟩ := am_rtV_i e; cases e1
  | _ => exact absurd e (by simp [am_step])
theorem am_x9 {G : am_G} {h : am_H} {H : Heap} {x n : Nat} {f : Nat → Int32} (hP : am_P G h H) (hx : x = 0) (hh : h[x]? = some (.inl (9, n, .inl f))) : x = 0 ∧ n = G.2.1.1 ∧ f = G.2.1.2 := by
  subst hx
  have e : (am_ext G)[0]? = some (.inl (9, n, .inl f)) := by rw [← hP.2.1, List.getElem?_take_of_lt (by omega), hh]
  simp [am_ext] at e
  exact ⟨rfl, e.1.symm, e.2.symm⟩
theorem am_n9 {G : am_G} {h : am_H} {H : Heap} {x n : Nat} {y : (Nat → Int32) ⊕ (Nat → Int64) ⊕ (Nat → UInt32) ⊕ (Nat → UInt64) ⊕ (Nat → Option Nat)} (hP : am_P G h H) (hx : x = 0) (hh : h[x]? = some (.inl (9, n, y))) : n = G.2.1.1 := by
  subst hx
  have e : (am_ext G)[0]? = some (.inl (9, n, y)) := by rw [← hP.2.1, List.getElem?_take_of_lt (by omega), hh]
  simp [am_ext] at e
  exact e.1.symm
theorem am_n8 {G : am_G} {h : am_H} {H : Heap} {x n : Nat} {y : (Nat → Int32) ⊕ (Nat → Int64) ⊕ (Nat → UInt32) ⊕ (Nat → UInt64) ⊕ (Nat → Option Nat)} (hP : am_P G h H) (hx : x = 1) (hh : h[x]? = some (.inl (8, n, y))) : n = 0 := by
  subst hx
  have e : (am_ext G)[1]? = some (.inl (8, n, y)) := by rw [← hP.2.1, List.getElem?_take_of_lt (by omega), hh]
  simp [am_ext] at e
  exact e.1.symm
theorem am_rm1 {R : Room} {k0 z0 n : Nat} {h : am_H} {y : am_C} (hrm : (h ++ [y]).length ≤ R.cells + k0 ∧ am_sz (h ++ [y]) ≤ R.slots + z0) (hn : am_sl y = n) : am_Rm R k0 z0 h n := by
  rw [am_sz_push, hn, List.length_append] at hrm
  exact hrm
section AMT
variable {p : Program} {l : Launch} {e : Env} {R : Room} {s : State} {m : MethodId} {args : Array Value} {below : List Frame} {meth : Method} {c : Code} {Q : State → Prop} {G : am_G} {k0 z0 : Nat} {pc : Nat} {ls : am_L} {st : List Value} {h h' : am_H} {M : am_M} {Y : am_Y}
set_option maxHeartbeats 4000000 in
theorem am_ok1 (hC : am_Cx p s m args meth c R G M Y) {r : am_R} (hrow : am_rok M.1 Y.2.1 (pc, r) = true) (hlen : ls.length = M.2.2.2.1) {q : am_F × am_H} (es : am_step M r pc ls st h = some (.inl q)) (hrm : q.2.length ≤ R.cells + k0 ∧ am_sz q.2 ≤ R.slots + z0) (K : am_Kn p l e R s m args below meth c Q G k0 z0 q.1.1 q.1.2.1 q.1.2.2 q.2) : am_Kn p l e R s m args below meth c Q G k0 z0 pc ls st h := by
  obtain ⟨hx, hb, hml, ho, hK, hE, hini, hfr, hlo⟩ := hC
  obtain ⟨i, a, b, w, z⟩ := r
  have hw := hrow
  unfold am_rok at hw
  rw [Bool.and_eq_true] at hw
  cases i with
  | iconst k =>
    unfold am_step am_nx at es
    cases es
    exact am_o_iconst hx hb (am_dec rfl hw.1) K
  | bipush k =>
    unfold am_step am_nx at es
    cases es
    exact am_o_bipush hx hb (am_dec rfl hw.1) K
  | sipush k =>
    unfold am_step am_nx at es
    cases es
    exact am_o_sipush hx hb (am_dec rfl hw.1) K
  | lconst k =>
    unfold am_step am_nx at es
    cases es
    exact am_o_lconst hx hb (am_dec rfl hw.1) K
  | aconst_null =>
    unfold am_step am_nx at es
    cases es
    exact am_o_null hx hb (am_dec rfl hw.1) K
  | iload_n k =>
    obtain ⟨x, hl, e1⟩ := am_ldI_i es
    cases e1
    exact am_o_iload_n hx hb hl (am_dec rfl hw.1) K
  | iload k =>
    obtain ⟨x, hl, e1⟩ := am_ldI_i es
    cases e1
    exact am_o_iload hx hb hl (am_dec rfl hw.1) K
  | istore_n k =>
    obtain ⟨x, r, ls', rfl, hs, e1⟩ := am_stI_i es
    cases e1
    exact am_o_istore_n hx hb hs (am_dec rfl hw.1) K
  | istore k =>
    obtain ⟨x, r, ls', rfl, hs, e1⟩ := am_stI_i es
    cases e1
    exact am_o_istore hx hb hs (am_dec rfl hw.1) K
  | lload_n k =>
    obtain ⟨x, hl, e1⟩ := am_ldL_i es
    cases e1
    exact am_o_lload_n hx hb hl (am_dec rfl hw.1) K
  | lload k =>
    obtain ⟨x, hl, e1⟩ := am_ldL_i es
    cases e1
    exact am_o_lload hx hb hl (am_dec rfl hw.1) K
  | lstore_n k =>
    obtain ⟨x, r, ls', rfl, hs, e1⟩ := am_stL_i es
    cases e1
    exact am_o_lstore_n hx hb hs (am_dec rfl hw.1) K
  | lstore k =>
    obtain ⟨x, r, ls', rfl, hs, e1⟩ := am_stL_i es
    cases e1
    exact am_o_lstore hx hb hs (am_dec rfl hw.1) K
  | aload_n k =>
    obtain ⟨x, hl, e1⟩ := am_ldA_i es
    cases e1
    exact am_o_aload_n hx hb hl (am_dec rfl hw.1) K
  | aload k =>
    obtain ⟨x, hl, e1⟩ := am_ldA_i es
    cases e1
    exact am_o_aload hx hb hl (am_dec rfl hw.1) K
  | astore_n k =>
    obtain ⟨x, r, ls', rfl, hs, e1⟩ := am_stA_i es
    cases e1
    exact am_o_astore_n hx hb hs (am_dec rfl hw.1) K
  | astore k =>
    obtain ⟨x, r, ls', rfl, hs, e1⟩ := am_stA_i es
    cases e1
    exact am_o_astore hx hb hs (am_dec rfl hw.1) K
  | iinc i k =>
    obtain ⟨x, ls', hl, hs, e1⟩ := am_inc_i es
    cases e1
    exact am_o_iinc hx hb hl hs (am_dec rfl hw.1) K
  | iadd =>
    obtain ⟨x, y, r, rfl, e1⟩ := am_b2_i es
    cases e1
    exact am_o_iadd hx hb (am_dec rfl hw.1) K
  | isub =>
    obtain ⟨x, y, r, rfl, e1⟩ := am_b2_i es
    cases e1
    exact am_o_isub hx hb (am_dec rfl hw.1) K
  | imul =>
    obtain ⟨x, y, r, rfl, e1⟩ := am_b2_i es
    cases e1
    exact am_o_imul hx hb (am_dec rfl hw.1) K
  | iand =>
    obtain ⟨x, y, r, rfl, e1⟩ := am_b2_i es
    cases e1
    exact am_o_iand hx hb (am_dec rfl hw.1) K
  | ior =>
    obtain ⟨x, y, r, rfl, e1⟩ := am_b2_i es
    cases e1
    exact am_o_ior hx hb (am_dec rfl hw.1) K
  | ixor =>
    obtain ⟨x, y, r, rfl, e1⟩ := am_b2_i es
    cases e1
    exact am_o_ixor hx hb (am_dec rfl hw.1) K
  | ishl =>
    obtain ⟨x, y, r, rfl, e1⟩ := am_b2_i es
    cases e1
    exact am_o_ishl hx hb (am_dec rfl hw.1) K
  | ishr =>
    obtain ⟨x, y, r, rfl, e1⟩ := am_b2_i es
    cases e1
    exact am_o_ishr hx hb (am_dec rfl hw.1) K
  | iushr =>
    obtain ⟨x, y, r, rfl, e1⟩ := am_b2_i es
    cases e1
    exact am_o_iushr hx hb (am_dec rfl hw.1) K
  | idiv =>
    obtain ⟨x, y, r, rfl, hy, e1⟩ := am_b2z_i es
    cases e1
    exact am_o_idiv hx hb hy (am_dec rfl hw.1) K
  | irem =>
    obtain ⟨x, y, r, rfl, hy, e1⟩ := am_b2z_i es
    cases e1
    exact am_o_irem hx hb hy (am_dec rfl hw.1) K
  | ineg =>
    obtain ⟨x, r, rfl, e1⟩ := am_u1_i es
    cases e1
    exact am_o_ineg hx hb (am_dec rfl hw.1) K
  | i2b =>
    obtain ⟨x, r, rfl, e1⟩ := am_u1_i es
    cases e1
    exact am_o_i2b hx hb (am_dec rfl hw.1) K
  | ladd =>
    obtain ⟨x, y, r, rfl, e1⟩ := am_l2_i es
    cases e1
    exact am_o_ladd hx hb (am_dec rfl hw.1) K
  | lmul =>
    obtain ⟨x, y, r, rfl, e1⟩ := am_l2_i es
    cases e1
    exact am_o_lmul hx hb (am_dec rfl hw.1) K
  | lcmp =>
    obtain ⟨x, y, r, rfl, e1⟩ := am_lcm_i es
    cases e1
    exact am_o_lcmp hx hb (am_dec rfl hw.1) K
  | i2l =>
    obtain ⟨x, r, rfl, e1⟩ := am_i2l_i es
    cases e1
    exact am_o_i2l hx hb (am_dec rfl hw.1) K
  | dup =>
    obtain ⟨v, r, rfl, hv, e1⟩ := am_dup_i es
    cases e1
    exact am_o_dup hx hb hv (am_dec rfl hw.1) K
  | pop =>
    obtain ⟨v, r, rfl, hv, e1⟩ := am_pop_i es
    cases e1
    exact am_o_pop hx hb hv (am_dec rfl hw.1) K
  | dup_x1 =>
    obtain ⟨v, w, r, rfl, hv, e1⟩ := am_dx1_i es
    cases e1
    exact am_o_dup_x1 hx hb hv.1 hv.2 (am_dec rfl hw.1) K
  | dup2 =>
    obtain ⟨v, w, r, rfl, hv, e1⟩ := am_du2_i es
    cases e1
    exact am_o_dup2 hx hb hv.1 hv.2 (am_dec rfl hw.1) K
  | goto off =>
    obtain ⟨t, ht, e1⟩ := am_jp_i es
    cases e1
    exact am_o_goto hx hb ht (am_dec rfl hw.1) K
  | getfield i =>
    obtain ⟨x, r, fs, v, rfl, hh, hv, e1⟩ := am_gf_i es
    cases e1
    have hf : am_fok M.1 i a b w z = true := hw.2
    obtain ⟨rc, hr, hbn, hk⟩ := am_fok_i hf
    rcases hk with ⟨-, hl⟩ | ⟨-, hl⟩ | ⟨-, hl, hsm⟩
    · exact am_o_getf hx hb hK ho hr hbn (hK.w hl rfl args) (fun _ q => q) hh hv (am_dec rfl hw.1) K
    · exact am_o_getfN hx hb hK ho hr hbn (hK.w hl rfl args) (fun _ q => q) hh hv (am_dec rfl hw.1) K
    · exact am_o_getf hx hb hK ho hr hbn (hK.w hl rfl args) (fun x q => u_same (hK.w hsm rfl args) x q) hh hv (am_dec rfl hw.1) K
  | putfield i =>
    obtain ⟨v, x, r, fs, rfl, hh, hbl, hv, hfn, e1⟩ := am_pf_i es
    cases e1
    have hf : (am_fok M.1 i a b w z && am_pok M.1 a b z) = true := hw.2
    rw [Bool.and_eq_true] at hf
    obtain ⟨rc, hr, hbn, hk⟩ := am_fok_i hf.1
    obtain ⟨hp1, hp2⟩ := am_pok_i hr hf.2
    cases hfi : (rc.2.1 b).2.2.2 with
    | true =>
      obtain ⟨hz, hdc⟩ := hp2 hfi
      have hni := hini (hfn (hp1.trans hfi)).1
      rcases hk with ⟨-, hl⟩ | ⟨hz1, -⟩ | ⟨hz1, -⟩
      · exact am_o_putfF hx hb hK ho hr hbn (hK.w hl rfl args) (fun _ q => q) hfi hni hdc hh hbl hv (am_dec rfl hw.1) K
      · omega
      · omega
    | false =>
      rcases hk with ⟨-, hl⟩ | ⟨-, hl⟩ | ⟨-, hl, hsm⟩
      · exact am_o_putf hx hb hK ho hr hbn (hK.w hl rfl args) (fun _ q => q) hfi hh hbl hv (am_dec rfl hw.1) K
      · exact am_o_putfN hx hb hK ho hr hbn (hK.w hl rfl args) (fun _ q => q) hfi hh hbl hv (am_dec rfl hw.1) K
      · exact am_o_putf hx hb hK ho hr hbn (hK.w hl rfl args) (fun x q => u_same (hK.w hsm rfl args) x q) hfi hh hbl hv (am_dec rfl hw.1) K
  | getstatic i =>
    unfold am_step am_nx at es
    cases es
    have hf : am_w w (.fieldLink (am_cnm M.1) i RJx4a65c "DEFAULTCAPACITY_EMPTY_ELEMENTDATA" "[Ljava/lang/Object;") = true := hw.2
    exact am_o_gets hx hb hE ho (hK.w hf rfl args) (am_dec rfl hw.1) K
  | iaload =>
    obtain ⟨i, x, r, t, n, f, rfl, hh, ht, hi, e1⟩ := am_ial_i es
    cases e1
    rcases ht with rfl | ⟨rfl, hx0⟩
    · exact am_o_iald hx hb hK hh hi (am_dec rfl hw.1) K
    · exact am_o_iald9 (t := 9) hx hb hE hh (fun H hP => am_x9 hP hx0 hh) hi (am_dec rfl hw.1) K
  | baload =>
    obtain ⟨i, x, r, t, n, f, rfl, hh, ht, hi, e1⟩ := am_bal_i es
    cases e1
    rcases ht with rfl | rfl
    · exact am_o_bald hx hb hK hh hi (am_dec rfl hw.1) K
    · exact am_o_zald hx hb hK hh hi (am_dec rfl hw.1) K
  | aaload =>
    obtain ⟨i, x, r, t, n, f, rfl, hh, ht, hi, e1⟩ := am_aal_i es
    cases e1
    exact am_o_aald hx hb hK ht hh hi (am_dec rfl hw.1) K
  | iastore =>
    obtain ⟨v, i, x, r, t, n, f, rfl, hh, ht, hi, e1⟩ := am_ias_i es
    cases e1
    subst ht
    exact am_o_iast hx hb hK hh hi (am_dec rfl hw.1) K
  | bastore =>
    obtain ⟨v, i, x, r, t, n, f, rfl, hh, ht, hi, e1⟩ := am_bas_i es
    cases e1
    rcases ht with rfl | rfl
    · exact am_o_bast hx hb hK hh hi (am_dec rfl hw.1) K
    · exact am_o_zast hx hb hK hh hi (am_dec rfl hw.1) K
  | aastore =>
    obtain ⟨v, i, x, r, t, n, f, ci, rfl, hh, hv, ht, hi, e1⟩ := am_aas_i es
    cases e1
    exact am_o_aast hx hb hK ht hh hv hi (am_dec rfl hw.1) K
  | arraylength =>
    obtain ⟨x, r, t, n, y, rfl, hh, ht, e1⟩ := am_aln_i es
    cases e1
    rcases ht with ht | ⟨rfl, hx0⟩ | ⟨rfl, hx0⟩
    · exact am_o_alen hx hb hK ht hh (am_dec rfl hw.1) K
    · intro H locs cells slots cl hI hL
      exact am_o_alen9 hx hb hE hx0 (am_n9 hI.1 hx0 hh) (am_dec rfl hw.1) K H locs cells slots cl hI hL
    · intro H locs cells slots cl hI hL
      exact am_o_alen8 hx hb hE hx0 (am_n8 hI.1 hx0 hh) (am_dec rfl hw.1) K H locs cells slots cl hI hL
  | newarray ty =>
    obtain ⟨n, r, t, rfl, hn, hn2, ht, e1⟩ := am_nwa_i es
    cases e1
    have hq : am_Rm R k0 z0 h n.toNatClampNeg := am_rm1 (y := .inl (t, n.toNatClampNeg, .inl (fun _ => 0))) hrm rfl
    rcases ht with ⟨rfl, rfl⟩ | ⟨rfl, rfl⟩ | ⟨rfl, rfl⟩
    · exact am_o_nwi hx hb hK hE hn hn2 hq (am_dec rfl hw.1) K
    · exact am_o_nwb hx hb hK hE hn hn2 hq (am_dec rfl hw.1) K
    · exact am_o_nwz hx hb hK hE hn hn2 hq (am_dec rfl hw.1) K
  | anewarray i =>
    obtain ⟨n, r, rfl, hn, e1⟩ := am_anw_i es
    cases e1
    have hq : am_Rm R k0 z0 h n.toNatClampNeg := am_rm1 (y := .inl (a, n.toNatClampNeg, .inr (.inr (.inr (.inr (fun _ => none)))))) hrm rfl
    have hf : ((a == 3 && am_w w (.classLink (am_cnm M.1) i "java/lang/Object")) || (a == 4 && am_w w (.classLink (am_cnm M.1) i RX6))) = true := hw.2
    simp only [Bool.or_eq_true, Bool.and_eq_true, beq_iff_eq] at hf
    rcases hf with ⟨rfl, hl⟩ | ⟨rfl, hl⟩
    · exact am_o_anwO hx hb hK hE ho (hK.w hl rfl args) hn.1 hn.2 hq (am_dec rfl hw.1) K
    · exact am_o_anwS hx hb hK hE ho (hK.w hl rfl args) hn.1 hn.2 hq (am_dec rfl hw.1) K
  | new i =>
    have e1 := am_new_i es
    cases e1
    have hf : (match vwCl[a]? with
      | some (C, _, N) => am_w w (.classLink (am_cnm M.1) i C) && am_w b (.instantiable C N) && am_w z.toNat (.initialized C)
      | none => false) = true := hw.2
    cases hr : vwCl[a]? with
    | none => rw [hr] at hf; cases hf
    | some rc =>
      rw [hr] at hf
      simp only [Bool.and_eq_true] at hf
      have hq : am_Rm R k0 z0 h (am_dfl.getD a []).length := am_rm1 (y := .inr (a, am_dfl.getD a [])) hrm rfl
      exact am_o_new hx hb hK hE ho hr (hK.w hf.1.1 rfl args) (hK.w hf.1.2 rfl args) (hK.w hf.2 rfl args) hq (am_dec rfl hw.1) K
  | checkcast i =>
    obtain ⟨x, r, fs, rfl, hh, e1⟩ := am_cst_i es
    cases e1
    have hf : (match vwCl[a]? with
      | some (C, _, _) => am_w w (.classLink (am_cnm M.1) i C)
      | none => false) = true := hw.2
    cases hr : vwCl[a]? with
    | none => rw [hr] at hf; cases hf
    | some rc =>
      rw [hr] at hf
      exact am_o_cast hx hb hK ho hr (hK.w hf rfl args) hh (am_dec rfl hw.1) K
  | ldc i =>
    have hf : (if a = 1 then am_w w (.classLink (am_cnm M.1) i "[Ljava/lang/Object;") else am_w w (.constant (am_cnm M.1) i (Int32.ofInt z))) = true := hw.2
    rcases am_ldc_i es with ⟨ha, e⟩ | ⟨ha, e⟩
    · cases e
      rw [if_pos ha] at hf
      exact am_o_ldcM hx hb hK ho (hK.w hf rfl args) (am_dec rfl hw.1) K
    · cases e
      rw [if_neg ha] at hf
      exact am_o_ldc hx hb ho (hK.w hf rfl args) (am_dec rfl hw.1) K
  | ldc_w i =>
    have e2 : (if a = 0 then am_nx (pc + 3) ls (.int (Int32.ofInt z) :: st) h else none) = some (.inl q) := es
    split at e2
    · unfold am_nx at e2
      cases e2
      have hf : am_w w (.constant (am_cnm M.1) i (Int32.ofInt z)) = true := hw.2
      exact am_o_ldcw hx hb ho (hK.w hf rfl args) (am_dec rfl hw.1) K
    · cases e2
  | ldc2_w i =>
    unfold am_step am_nx at es
    cases es
    have hf : am_w w (.constantLong (am_cnm M.1) i (Int64.ofInt z)) = true := hw.2
    exact am_o_ldc2 hx hb ho (hK.w hf rfl args) (am_dec rfl hw.1) K
  | ifCond k off =>
    obtain ⟨x, r, rfl, e1⟩ := am_if1_i es
    obtain ⟨t, ht, ⟨hc, e2⟩ | ⟨hc, e2⟩⟩ := am_br_i e1
    · cases e2
      exact am_o_if1 hx hb ht (am_dec rfl hw.1) (fun _ => K) (fun q => absurd hc q)
    · cases e2
      exact am_o_if1 hx hb ht (am_dec rfl hw.1) (fun q => absurd q hc) (fun _ => K)
  | if_icmp k off =>
    obtain ⟨x, y, r, rfl, e1⟩ := am_if2_i es
    obtain ⟨t, ht, ⟨hc, e2⟩ | ⟨hc, e2⟩⟩ := am_br_i e1
    · cases e2
      exact am_o_if2 hx hb ht (am_dec rfl hw.1) (fun _ => K) (fun q => absurd hc q)
    · cases e2
      exact am_o_if2 hx hb ht (am_dec rfl hw.1) (fun q => absurd q hc) (fun _ => K)
  | if_acmp k off =>
    obtain ⟨x, y, r, rfl, hxy, e1⟩ := am_ifa_i es
    obtain ⟨t, ht, ⟨hc, e2⟩ | ⟨hc, e2⟩⟩ := am_br_i e1
    · cases e2
      cases k with
      | eq => exact am_o_acmp hx hb hE.1.2.1 hxy ht (am_dec rfl hw.1) (fun _ => K) (fun q => absurd hc q)
      | ne => exact am_o_acmp hx hb hE.1.2.1 hxy ht (am_dec rfl hw.1) (fun _ => K) (fun q => absurd hc q)
    · cases e2
      cases k with
      | eq => exact am_o_acmp hx hb hE.1.2.1 hxy ht (am_dec rfl hw.1) (fun q => absurd q hc) (fun _ => K)
      | ne => exact am_o_acmp hx hb hE.1.2.1 hxy ht (am_dec rfl hw.1) (fun q => absurd q hc) (fun _ => K)
  | tableswitch d lo hi offs =>
    obtain ⟨n, hd⟩ := am_decS hw.1
    obtain ⟨x, r, rfl, ⟨hc, e1⟩ | ⟨hc, off, hof, e1⟩⟩ := am_tsw_i es
    · obtain ⟨t, ht, e2⟩ := am_jp_i e1
      cases e2
      exact am_o_tswO hx hb hc ht hd K
    · obtain ⟨t, ht, e2⟩ := am_jp_i e1
      cases e2
      exact am_o_tswI hx hb hc hof ht hd K
  | invokevirtual i =>
    have hf : (if a = 1 then am_w w (.methodLink (am_cnm M.1) i am_gcN) else am_mok M.1 i a b w z false false) = true := hw.2
    rcases am_ivv_i es with ⟨ha, x, r, n, y, rfl, hh, hn, e1⟩ | ⟨mj, x, r, fs, ha, hs, hh, hb9, e1⟩
    · cases e1
      rw [if_pos ha] at hf
      obtain ⟨n1, n2⟩ := am_nat_i hn
      exact am_o_gcls hx hb hK (hml.trans hlen.symm) ho (hK.w hf rfl args) hh (Nat.le_trans n1 hfr) (Nat.le_trans n2 hlo) (am_dec rfl hw.1) K
    · obtain ⟨N, -, -, -, -, -, e2⟩ := am_cl_i e1
      cases e2
  | invokespecial i =>
    have hf : (if a = 0 then am_w w (.methodLink (am_cnm M.1) i objectInit) else am_mok M.1 i a b w z false true) = true := hw.2
    rcases am_ivi_i es with ⟨ha, x, r, rfl, hn, e1⟩ | ⟨ha, mj, x, r, ha2, hs, hb9, e1⟩
    · cases e1
      rw [if_pos ha] at hf
      obtain ⟨n1, n2⟩ := am_nat_i hn
      exact am_o_oini hx hb hK (hml.trans hlen.symm) ho (hK.w hf rfl args) (Nat.le_trans n1 hfr) (Nat.le_trans n2 hlo) (am_dec rfl hw.1) K
    · obtain ⟨N, -, -, -, -, -, e2⟩ := am_cl_i e1
      cases e2
  | invokestatic i =>
    have hf : (if a = 2 ∨ a = 3 then am_w w (.methodLink (am_cnm M.1) i arraycopyName) else if a = 4 then am_w w (.methodLink (am_cnm M.1) i Lib.Math.abs.name) else if a = 5 then am_w w (.methodLink (am_cnm M.1) i Lib.Math.max.name) else if a = 6 then am_w w (.methodLink (am_cnm M.1) i Lib.Math.min.name) else am_mok M.1 i a b w z true false) = true := hw.2
    rcases am_ivs_i es with ⟨ha, n, dp, y, sp, x, r, n0, n1, f, g, rfl, hh, hh2, hn, hc, hr, e1⟩ | ⟨ha, n, dp, y, sp, x, r, n0, n1, f, g, rfl, hh, hh2, hn, hc, hr, e1⟩ | ⟨ha, x, r, rfl, hn, e1⟩ | ⟨ha, x, y, r, rfl, hn, e1⟩ | ⟨ha, x, y, r, rfl, hn, e1⟩ | ⟨mj, ha, hb9, e1⟩
    · cases e1
      obtain ⟨m1, m2⟩ := am_nat_i hn
      rw [if_pos (Or.inl ha)] at hf
      exact am_o_cpr hx hb hK (hml.trans hlen.symm) ho (hK.w hf rfl args) hh hh2 hc hr (Nat.le_trans m1 hfr) (Nat.le_trans m2 hlo) (am_dec rfl hw.1) K
    · cases e1
      obtain ⟨m1, m2⟩ := am_nat_i hn
      rw [if_pos (Or.inr ha)] at hf
      exact am_o_cpb hx hb hK (hml.trans hlen.symm) ho (hK.w hf rfl args) hh hh2 hc hr (Nat.le_trans m1 hfr) (Nat.le_trans m2 hlo) (am_dec rfl hw.1) K
    · cases e1
      obtain ⟨m1, m2⟩ := am_nat_i hn
      subst ha
      exact am_o_abs hx hb hK (hml.trans hlen.symm) ho (hK.w hf rfl args) (Nat.le_trans m1 hfr) (Nat.le_trans m2 hlo) hrm (am_dec rfl hw.1) K
    · cases e1
      obtain ⟨m1, m2⟩ := am_nat_i hn
      subst ha
      exact am_o_max hx hb hK (hml.trans hlen.symm) ho (hK.w hf rfl args) (Nat.le_trans m1 hfr) (Nat.le_trans m2 hlo) hrm (am_dec rfl hw.1) K
    · cases e1
      obtain ⟨m1, m2⟩ := am_nat_i hn
      subst ha
      exact am_o_min hx hb hK (hml.trans hlen.symm) ho (hK.w hf rfl args) (Nat.le_trans m1 hfr) (Nat.le_trans m2 hlo) hrm (am_dec rfl hw.1) K
    · obtain ⟨N, -, -, -, -, -, e2⟩ := am_cl_i e1
      cases e2
  | ireturn =>
    obtain ⟨x, -, -, e1⟩ := am_rtI_i es; cases e1
  | lreturn =>
    obtain ⟨x, -, -, e1⟩ := am_rtL_i es; cases e1
  | areturn =>
    obtain ⟨x, -, -, e1⟩ := am_rtA_i es; cases e1
  | return_ =>
    obtain ⟨-, -, e1⟩ := am_rtV_i es; cases e1
  | _ => exact absurd es (by simp [am_step])
end AMT
