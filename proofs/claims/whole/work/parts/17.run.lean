/-! calls, returns, runs -/
theorem am_fe_mem : ∀ {tab : List (Nat × am_R)} {pc : Nat} {r : am_R}, am_fe tab pc = some r → (pc, r) ∈ tab
  | [], _, _, h => by cases h
  | e :: t, pc, r, h => by
    unfold am_fe at h
    split at h
    · rename_i he
      cases h
      subst he
      exact List.mem_cons_self
    · exact List.mem_cons_of_mem _ (am_fe_mem h)
theorem am_meth {mj : Nat} {N : am_M} {Y : am_Y} (hN : am_mt[mj]? = some N) (hY : am_my[mj]? = some Y) (hj : mj < 195) : am_yok N Y = true ∧ ∀ e ∈ N.2.2.2.2.2.2, am_rok N.1 Y.2.1 e = true := by
  have h := am_chk_all mj hj
  unfold am_chk at h
  rw [hN] at h
  simp only [hY, Bool.and_eq_true] at h
  exact ⟨h.1, List.all_eq_true.mp h.2⟩
theorem am_seg {lo n j : Nat} {e : Nat × am_R} (h : am_chkL lo n = true) (hj : am_t195[j]? = some e) (h1 : lo ≤ j) (h2 : j < lo + n) : am_rok 19 cL_law e = true := by
  refine List.all_eq_true.mp h e (List.mem_of_getElem? (i := j - lo) ?_)
  rw [List.getElem?_take_of_lt (by omega), List.getElem?_drop, show lo + (j - lo) = j by omega]
  exact hj
theorem am_lawlen : am_t195.length = 996 := by decide +kernel
theorem am_lawrow (j : Nat) (e : Nat × am_R) (hj : am_t195[j]? = some e) : am_rok 19 cL_law e = true :=
  have hl : j < 996 := by have := (List.getElem?_eq_some_iff.mp hj).1; rw [am_lawlen] at this; exact this
  if h8 : j < 480 then (if h4 : j < 240 then (if h2 : j < 120 then (if h1 : j < 60 then (am_seg am_kl0 hj (by omega) (by omega)) else (am_seg am_kl1 hj (by omega) (by omega))) else (if h3 : j < 180 then (am_seg am_kl2 hj (by omega) (by omega)) else (am_seg am_kl3 hj (by omega) (by omega)))) else (if h6 : j < 360 then (if h5 : j < 300 then (am_seg am_kl4 hj (by omega) (by omega)) else (am_seg am_kl5 hj (by omega) (by omega))) else (if h7 : j < 420 then (am_seg am_kl6 hj (by omega) (by omega)) else (am_seg am_kl7 hj (by omega) (by omega))))) else (if h12 : j < 720 then (if h10 : j < 600 then (if h9 : j < 540 then (am_seg am_kl8 hj (by omega) (by omega)) else (am_seg am_kl9 hj (by omega) (by omega))) else (if h11 : j < 660 then (am_seg am_kl10 hj (by omega) (by omega)) else (am_seg am_kl11 hj (by omega) (by omega)))) else (if h14 : j < 840 then (if h13 : j < 780 then (am_seg am_kl12 hj (by omega) (by omega)) else (am_seg am_kl13 hj (by omega) (by omega))) else (if h15 : j < 900 then (am_seg am_kl14 hj (by omega) (by omega)) else (if h16 : j < 960 then (am_seg am_kl15 hj (by omega) (by omega)) else (am_seg am_kl16 hj (by omega) (by omega))))))
theorem am_lawrows : ∀ e ∈ am_t195, am_rok 19 cL_law e = true := fun e he => by
  obtain ⟨j, hj⟩ := List.getElem?_of_mem he
  exact am_lawrow j e hj
theorem am_ini4 : ∀ N ∈ am_mt, N.2.1 = true → N.2.2.1 = 4 := by decide +kernel
theorem am_fr8 : ∀ N ∈ am_mt, N.2.2.2.2.1 ≤ 8 ∧ N.1 ≤ 19 := by decide +kernel
theorem am_mtlen : am_mt.length = 196 := by decide +kernel
theorem am_lawM : am_mt[195]? = some (19, false, 1, 4, 8, 200, am_t195) := rfl
theorem am_cee {mj : Nat} {M N : am_M} (hN : am_mt[mj]? = some N) (hM : M ∈ am_mt) (hf : N.2.2.2.2.1 + 1 ≤ M.2.2.2.2.1) : mj < 195 := by
  have h1 := (am_fr8 M hM).1
  have h2 := (List.getElem?_eq_some_iff.mp hN).1
  rw [am_mtlen] at h2
  rcases Nat.lt_or_ge mj 195 with q | q
  · exact q
  · have e : mj = 195 := by omega
    subst e
    have e3 : N = _ := (Option.some.inj (am_lawM.symm.trans hN)).symm
    rw [e3] at hf
    have h9 : 8 + 1 ≤ M.2.2.2.2.1 := hf
    omega
def am_retk (M : am_M) (i : Instr) (v : Option Value) : Prop := (i = .ireturn ∧ ∃ x, v = some (.int x) ∧ (M.2.2.1 = 0 ∨ (M.2.2.1 = 1 ∧ (x = 0 ∨ x = 1)))) ∨ (i = .lreturn ∧ ∃ x, v = some (.long x) ∧ M.2.2.1 = 2) ∨ (i = .areturn ∧ ∃ x, v = some (.ref x) ∧ M.2.2.1 = 3) ∨ (i = .return_ ∧ v = none ∧ M.2.2.1 = 4)
theorem am_okr {M : am_M} {r : am_R} {pc : Nat} {ls : am_L} {st : List Value} {h : am_H} {v : Option Value} (e : am_step M r pc ls st h = some (.inr (.inl v))) : am_retk M r.1 v ∧ st = v.toList := by
  obtain ⟨i, a, b, w, z⟩ := r
  cases i with
  | iconst k =>
    unfold am_step am_nx at e
    cases e
  | bipush k =>
    unfold am_step am_nx at e
    cases e
  | sipush k =>
    unfold am_step am_nx at e
    cases e
  | lconst k =>
    unfold am_step am_nx at e
    cases e
  | aconst_null =>
    unfold am_step am_nx at e
    cases e
  | iload_n k =>
    obtain ⟨x, hl, e1⟩ := am_ldI_i e
    cases e1
  | iload k =>
    obtain ⟨x, hl, e1⟩ := am_ldI_i e
    cases e1
  | istore_n k =>
    obtain ⟨x, r, ls', rfl, hs, e1⟩ := am_stI_i e
    cases e1
  | istore k =>
    obtain ⟨x, r, ls', rfl, hs, e1⟩ := am_stI_i e
    cases e1
  | lload_n k =>
    obtain ⟨x, hl, e1⟩ := am_ldL_i e
    cases e1
  | lload k =>
    obtain ⟨x, hl, e1⟩ := am_ldL_i e
    cases e1
  | lstore_n k =>
    obtain ⟨x, r, ls', rfl, hs, e1⟩ := am_stL_i e
    cases e1
  | lstore k =>
    obtain ⟨x, r, ls', rfl, hs, e1⟩ := am_stL_i e
    cases e1
  | aload_n k =>
    obtain ⟨x, hl, e1⟩ := am_ldA_i e
    cases e1
  | aload k =>
    obtain ⟨x, hl, e1⟩ := am_ldA_i e
    cases e1
  | astore_n k =>
    obtain ⟨x, r, ls', rfl, hs, e1⟩ := am_stA_i e
    cases e1
  | astore k =>
    obtain ⟨x, r, ls', rfl, hs, e1⟩ := am_stA_i e
    cases e1
  | iinc i k =>
    obtain ⟨x, ls', hl, hs, e1⟩ := am_inc_i e
    cases e1
  | iadd =>
    obtain ⟨x, y, r, rfl, e1⟩ := am_b2_i e
    cases e1
  | isub =>
    obtain ⟨x, y, r, rfl, e1⟩ := am_b2_i e
    cases e1
  | imul =>
    obtain ⟨x, y, r, rfl, e1⟩ := am_b2_i e
    cases e1
  | iand =>
    obtain ⟨x, y, r, rfl, e1⟩ := am_b2_i e
    cases e1
  | ior =>
    obtain ⟨x, y, r, rfl, e1⟩ := am_b2_i e
    cases e1
  | ixor =>
    obtain ⟨x, y, r, rfl, e1⟩ := am_b2_i e
    cases e1
  | ishl =>
    obtain ⟨x, y, r, rfl, e1⟩ := am_b2_i e
    cases e1
  | ishr =>
    obtain ⟨x, y, r, rfl, e1⟩ := am_b2_i e
    cases e1
  | iushr =>
    obtain ⟨x, y, r, rfl, e1⟩ := am_b2_i e
    cases e1
  | idiv =>
    obtain ⟨x, y, r, rfl, hy, e1⟩ := am_b2z_i e
    cases e1
  | irem =>
    obtain ⟨x, y, r, rfl, hy, e1⟩ := am_b2z_i e
    cases e1
  | ineg =>
    obtain ⟨x, r, rfl, e1⟩ := am_u1_i e
    cases e1
  | i2b =>
    obtain ⟨x, r, rfl, e1⟩ := am_u1_i e
    cases e1
  | ladd =>
    obtain ⟨x, y, r, rfl, e1⟩ := am_l2_i e
    cases e1
  | lmul =>
    obtain ⟨x, y, r, rfl, e1⟩ := am_l2_i e
    cases e1
  | lcmp =>
    obtain ⟨x, y, r, rfl, e1⟩ := am_lcm_i e
    cases e1
  | i2l =>
    obtain ⟨x, r, rfl, e1⟩ := am_i2l_i e
    cases e1
  | dup =>
    obtain ⟨v, r, rfl, hv, e1⟩ := am_dup_i e
    cases e1
  | pop =>
    obtain ⟨v, r, rfl, hv, e1⟩ := am_pop_i e
    cases e1
  | dup_x1 =>
    obtain ⟨v, w, r, rfl, hv, e1⟩ := am_dx1_i e
    cases e1
  | dup2 =>
    obtain ⟨v, w, r, rfl, hv, e1⟩ := am_du2_i e
    cases e1
  | goto off =>
    obtain ⟨t, ht, e1⟩ := am_jp_i e
    cases e1
  | getfield i =>
    obtain ⟨x, r, fs, v, rfl, hh, hv, e1⟩ := am_gf_i e
    cases e1
  | putfield i =>
    obtain ⟨v, x, r, fs, rfl, hh, hbl, hv, hfn, e1⟩ := am_pf_i e
    cases e1
  | getstatic i =>
    unfold am_step am_nx at e
    cases e
  | iaload =>
    obtain ⟨i, x, r, t, n, f, rfl, hh, ht, hi, e1⟩ := am_ial_i e
    cases e1
  | baload =>
    obtain ⟨i, x, r, t, n, f, rfl, hh, ht, hi, e1⟩ := am_bal_i e
    cases e1
  | aaload =>
    obtain ⟨i, x, r, t, n, f, rfl, hh, ht, hi, e1⟩ := am_aal_i e
    cases e1
  | iastore =>
    obtain ⟨v, i, x, r, t, n, f, rfl, hh, ht, hi, e1⟩ := am_ias_i e
    cases e1
  | bastore =>
    obtain ⟨v, i, x, r, t, n, f, rfl, hh, ht, hi, e1⟩ := am_bas_i e
    cases e1
  | aastore =>
    obtain ⟨v, i, x, r, t, n, f, ci, rfl, hh, hv, ht, hi, e1⟩ := am_aas_i e
    cases e1
  | arraylength =>
    obtain ⟨x, r, t, n, y, rfl, hh, ht, e1⟩ := am_aln_i e
    cases e1
  | newarray ty =>
    obtain ⟨n, r, t, rfl, hn, hn2, ht, e1⟩ := am_nwa_i e
    cases e1
  | anewarray i =>
    obtain ⟨n, r, rfl, hn, e1⟩ := am_anw_i e
    cases e1
  | new i =>
    have e1 := am_new_i e
    cases e1
  | checkcast i =>
    obtain ⟨x, r, fs, rfl, hh, e1⟩ := am_cst_i e
    cases e1
  | ldc i =>
    rcases am_ldc_i e with ⟨ha, e⟩ | ⟨ha, e⟩ <;> cases e
  | ldc_w i =>
    have e2 : (if a = 0 then am_nx (pc + 3) ls (.int (Int32.ofInt z) :: st) h else none) = some (.inr (.inl v)) := e
    split at e2
    · unfold am_nx at e2; cases e2
    · cases e2
  | ldc2_w i =>
    unfold am_step am_nx at e; cases e
  | ifCond k off =>
    obtain ⟨x, r, rfl, e1⟩ := am_if1_i e
    obtain ⟨t, ht, ⟨hc, e2⟩ | ⟨hc, e2⟩⟩ := am_br_i e1 <;> cases e2
  | if_icmp k off =>
    obtain ⟨x, y, r, rfl, e1⟩ := am_if2_i e
    obtain ⟨t, ht, ⟨hc, e2⟩ | ⟨hc, e2⟩⟩ := am_br_i e1 <;> cases e2
  | if_acmp k off =>
    obtain ⟨x, y, r, rfl, hxy, e1⟩ := am_ifa_i e
    obtain ⟨t, ht, ⟨hc, e2⟩ | ⟨hc, e2⟩⟩ := am_br_i e1 <;> cases e2
  | tableswitch d lo hi offs =>
    obtain ⟨x, r, rfl, ⟨hc, e1⟩ | ⟨hc, off, ho, e1⟩⟩ := am_tsw_i e <;> obtain ⟨t, ht, e2⟩ := am_jp_i e1 <;> cases e2
  | invokevirtual i =>
    rcases am_ivv_i e with ⟨ha, x, r, n, y, rfl, hh, hn, e1⟩ | ⟨mj, x, r, fs, ha, hs, hh, hb, e1⟩
    · cases e1
    · obtain ⟨N, -, -, -, -, -, e2⟩ := am_cl_i e1; cases e2
  | invokespecial i =>
    rcases am_ivi_i e with ⟨ha, x, r, rfl, hn, e1⟩ | ⟨ha, mj, x, r, ha2, hs, hb, e1⟩
    · cases e1
    · obtain ⟨N, -, -, -, -, -, e2⟩ := am_cl_i e1; cases e2
  | invokestatic i =>
    rcases am_ivs_i e with ⟨ha, n, dp, y, sp, x, r, n0, n1, f, g, rfl, hh, hh2, hn, hc, hr, e1⟩ | ⟨ha, n, dp, y, sp, x, r, n0, n1, f, g, rfl, hh, hh2, hn, hc, hr, e1⟩ | ⟨ha, x, r, rfl, hn, e1⟩ | ⟨ha, x, y, r, rfl, hn, e1⟩ | ⟨ha, x, y, r, rfl, hn, e1⟩ | ⟨mj, ha, hb, e1⟩
    · cases e1
    · cases e1
    · cases e1
    · cases e1
    · cases e1
    · obtain ⟨N, -, -, -, -, -, e2⟩ := am_cl_i e1; cases e2
  | ireturn =>
    obtain ⟨x, rfl, hc, e1⟩ := am_rtI_i e
    cases e1
    exact ⟨Or.inl ⟨rfl, x, rfl, hc⟩, rfl⟩
  | lreturn =>
    obtain ⟨x, rfl, hc, e1⟩ := am_rtL_i e
    cases e1
    exact ⟨Or.inr (Or.inl ⟨rfl, x, rfl, hc⟩), rfl⟩
  | areturn =>
    obtain ⟨x, rfl, hc, e1⟩ := am_rtA_i e
    cases e1
    exact ⟨Or.inr (Or.inr (Or.inl ⟨rfl, x, rfl, hc⟩)), rfl⟩
  | return_ =>
    obtain ⟨rfl, hc, e1⟩ := am_rtV_i e
    cases e1
    exact ⟨Or.inr (Or.inr (Or.inr ⟨rfl, rfl, hc⟩)), rfl⟩
  | _ => exact absurd e (by simp [am_step])
theorem am_cn12 {k : Nat} {r : vw_C} (h : vwCl[k]? = some r) : r.1 = am_cnm k := by
  have hk := am_cl12 h
  match k, h with
  | 0, h => cases Option.some.inj h; rfl
  | 1, h => cases Option.some.inj h; rfl
  | 2, h => cases Option.some.inj h; rfl
  | 3, h => cases Option.some.inj h; rfl
  | 4, h => cases Option.some.inj h; rfl
  | 5, h => cases Option.some.inj h; rfl
  | 6, h => cases Option.some.inj h; rfl
  | 7, h => cases Option.some.inj h; rfl
  | 8, h => cases Option.some.inj h; rfl
  | 9, h => cases Option.some.inj h; rfl
  | 10, h => cases Option.some.inj h; rfl
  | 11, h => cases Option.some.inj h; rfl
  | k + 12, _ => omega
theorem am_own12 {G : am_G} {h : am_H} {H : Heap} {x k : Nat} {fs : List Value} (hP : am_P G h H) (hh : h[x]? = some (.inr (k, fs))) (hk : k ≤ 19) : ∃ rc, vwCl[k]? = some rc := by
  have h3 := hP.2.1
  have key : x < 3 → (am_ext G)[x]? = some (.inr (k, fs)) := fun hl => by rw [← h3, List.getElem?_take_of_lt hl, hh]
  match x, hh, key with
  | 0, _, key => have e := key (by omega); simp [am_ext] at e
  | 1, _, key => have e := key (by omega); simp [am_ext] at e
  | 2, _, key =>
    have e := key (by omega)
    simp [am_ext] at e
    omega
  | j + 3, hh, _ =>
    obtain ⟨rc, q1, -⟩ := hP.1 j _ (am_ws_get hh)
    exact ⟨rc, q1⟩
section AMU
variable {p : Program} {l : Launch} {e : Env} {R : Room} {s : State} {m : MethodId} {args : Array Value} {below : List Frame} {meth : Method} {c : Code} {Q : State → Prop} {G : am_G} {k0 z0 : Nat} {pc : Nat} {ls : am_L} {st : List Value} {h h' : am_H} {M : am_M} {Y : am_Y}
/-- a call's step: who is called, with what, and how the walk goes on behind it -/
theorem am_okc (hC : am_Cx p s m args meth c R G M Y) {r : am_R} (hrow : am_rok M.1 Y.2.1 (pc, r) = true) (hlen : ls.length = M.2.2.2.1) {q : Nat × List Value × am_F} (es : am_step M r pc ls st h = some (.inr (.inr q))) : ∃ N, am_mt[q.1]? = some N ∧ N.2.2.2.2.1 + 1 ≤ M.2.2.2.2.1 ∧ (am_ent q.2.1).length ≤ N.2.2.2.1 ∧ q.2.2.2.1 = ls ∧ ∃ Yj, am_my[q.1]? = some Yj ∧ ∀ v h', am_yok N Yj = true → am_Ms l G N Yj q.2.1 h v h' → (h.length ≤ h'.length ∧ am_sz h ≤ am_sz h') → (h'.length ≤ R.cells + k0 ∧ am_sz h' ≤ R.slots + z0) → am_Kn p l e R s m args below meth c Q G k0 z0 q.2.2.1 q.2.2.2.1 (v.toList ++ q.2.2.2.2) h' → am_Kn p l e R s m args below meth c Q G k0 z0 pc ls st h := by
  obtain ⟨hx, hb, hml, ho, hK, hE, hini, hfr, hlo⟩ := hC
  obtain ⟨i, a, b, w, z⟩ := r
  have hw := hrow
  unfold am_rok at hw
  rw [Bool.and_eq_true] at hw
  cases i with
  | iconst k =>
    unfold am_step am_nx at es
    cases es
  | bipush k =>
    unfold am_step am_nx at es
    cases es
  | sipush k =>
    unfold am_step am_nx at es
    cases es
  | lconst k =>
    unfold am_step am_nx at es
    cases es
  | aconst_null =>
    unfold am_step am_nx at es
    cases es
  | iload_n k =>
    obtain ⟨x, hl, e1⟩ := am_ldI_i es
    cases e1
  | iload k =>
    obtain ⟨x, hl, e1⟩ := am_ldI_i es
    cases e1
  | istore_n k =>
    obtain ⟨x, r, ls', rfl, hs, e1⟩ := am_stI_i es
    cases e1
  | istore k =>
    obtain ⟨x, r, ls', rfl, hs, e1⟩ := am_stI_i es
    cases e1
  | lload_n k =>
    obtain ⟨x, hl, e1⟩ := am_ldL_i es
    cases e1
  | lload k =>
    obtain ⟨x, hl, e1⟩ := am_ldL_i es
    cases e1
  | lstore_n k =>
    obtain ⟨x, r, ls', rfl, hs, e1⟩ := am_stL_i es
    cases e1
  | lstore k =>
    obtain ⟨x, r, ls', rfl, hs, e1⟩ := am_stL_i es
    cases e1
  | aload_n k =>
    obtain ⟨x, hl, e1⟩ := am_ldA_i es
    cases e1
  | aload k =>
    obtain ⟨x, hl, e1⟩ := am_ldA_i es
    cases e1
  | astore_n k =>
    obtain ⟨x, r, ls', rfl, hs, e1⟩ := am_stA_i es
    cases e1
  | astore k =>
    obtain ⟨x, r, ls', rfl, hs, e1⟩ := am_stA_i es
    cases e1
  | iinc i k =>
    obtain ⟨x, ls', hl, hs, e1⟩ := am_inc_i es
    cases e1
  | iadd =>
    obtain ⟨x, y, r, rfl, e1⟩ := am_b2_i es
    cases e1
  | isub =>
    obtain ⟨x, y, r, rfl, e1⟩ := am_b2_i es
    cases e1
  | imul =>
    obtain ⟨x, y, r, rfl, e1⟩ := am_b2_i es
    cases e1
  | iand =>
    obtain ⟨x, y, r, rfl, e1⟩ := am_b2_i es
    cases e1
  | ior =>
    obtain ⟨x, y, r, rfl, e1⟩ := am_b2_i es
    cases e1
  | ixor =>
    obtain ⟨x, y, r, rfl, e1⟩ := am_b2_i es
    cases e1
  | ishl =>
    obtain ⟨x, y, r, rfl, e1⟩ := am_b2_i es
    cases e1
  | ishr =>
    obtain ⟨x, y, r, rfl, e1⟩ := am_b2_i es
    cases e1
  | iushr =>
    obtain ⟨x, y, r, rfl, e1⟩ := am_b2_i es
    cases e1
  | idiv =>
    obtain ⟨x, y, r, rfl, hy, e1⟩ := am_b2z_i es
    cases e1
  | irem =>
    obtain ⟨x, y, r, rfl, hy, e1⟩ := am_b2z_i es
    cases e1
  | ineg =>
    obtain ⟨x, r, rfl, e1⟩ := am_u1_i es
    cases e1
  | i2b =>
    obtain ⟨x, r, rfl, e1⟩ := am_u1_i es
    cases e1
  | ladd =>
    obtain ⟨x, y, r, rfl, e1⟩ := am_l2_i es
    cases e1
  | lmul =>
    obtain ⟨x, y, r, rfl, e1⟩ := am_l2_i es
    cases e1
  | lcmp =>
    obtain ⟨x, y, r, rfl, e1⟩ := am_lcm_i es
    cases e1
  | i2l =>
    obtain ⟨x, r, rfl, e1⟩ := am_i2l_i es
    cases e1
  | dup =>
    obtain ⟨v, r, rfl, hv, e1⟩ := am_dup_i es
    cases e1
  | pop =>
    obtain ⟨v, r, rfl, hv, e1⟩ := am_pop_i es
    cases e1
  | dup_x1 =>
    obtain ⟨v, w, r, rfl, hv, e1⟩ := am_dx1_i es
    cases e1
  | dup2 =>
    obtain ⟨v, w, r, rfl, hv, e1⟩ := am_du2_i es
    cases e1
  | goto off =>
    obtain ⟨t, ht, e1⟩ := am_jp_i es
    cases e1
  | getfield i =>
    obtain ⟨x, r, fs, v, rfl, hh, hv, e1⟩ := am_gf_i es
    cases e1
  | putfield i =>
    obtain ⟨v, x, r, fs, rfl, hh, hbl, hv, hfn, e1⟩ := am_pf_i es
    cases e1
  | getstatic i =>
    unfold am_step am_nx at es
    cases es
  | iaload =>
    obtain ⟨i, x, r, t, n, f, rfl, hh, ht, hi, e1⟩ := am_ial_i es
    cases e1
  | baload =>
    obtain ⟨i, x, r, t, n, f, rfl, hh, ht, hi, e1⟩ := am_bal_i es
    cases e1
  | aaload =>
    obtain ⟨i, x, r, t, n, f, rfl, hh, ht, hi, e1⟩ := am_aal_i es
    cases e1
  | iastore =>
    obtain ⟨v, i, x, r, t, n, f, rfl, hh, ht, hi, e1⟩ := am_ias_i es
    cases e1
  | bastore =>
    obtain ⟨v, i, x, r, t, n, f, rfl, hh, ht, hi, e1⟩ := am_bas_i es
    cases e1
  | aastore =>
    obtain ⟨v, i, x, r, t, n, f, ci, rfl, hh, hv, ht, hi, e1⟩ := am_aas_i es
    cases e1
  | arraylength =>
    obtain ⟨x, r, t, n, y, rfl, hh, ht, e1⟩ := am_aln_i es
    cases e1
  | newarray ty =>
    obtain ⟨n, r, t, rfl, hn, hn2, ht, e1⟩ := am_nwa_i es
    cases e1
  | anewarray i =>
    obtain ⟨n, r, rfl, hn, e1⟩ := am_anw_i es
    cases e1
  | new i =>
    have e1 := am_new_i es
    cases e1
  | checkcast i =>
    obtain ⟨x, r, fs, rfl, hh, e1⟩ := am_cst_i es
    cases e1
  | ldc i =>
    rcases am_ldc_i es with ⟨ha, e⟩ | ⟨ha, e⟩ <;> cases e
  | ldc_w i =>
    have e2 : (if a = 0 then am_nx (pc + 3) ls (.int (Int32.ofInt z) :: st) h else none) = some (.inr (.inr q)) := es
    split at e2
    · unfold am_nx at e2; cases e2
    · cases e2
  | ldc2_w i =>
    unfold am_step am_nx at es; cases es
  | ifCond k off =>
    obtain ⟨x, r, rfl, e1⟩ := am_if1_i es
    obtain ⟨t, ht, ⟨hc, e2⟩ | ⟨hc, e2⟩⟩ := am_br_i e1 <;> cases e2
  | if_icmp k off =>
    obtain ⟨x, y, r, rfl, e1⟩ := am_if2_i es
    obtain ⟨t, ht, ⟨hc, e2⟩ | ⟨hc, e2⟩⟩ := am_br_i e1 <;> cases e2
  | if_acmp k off =>
    obtain ⟨x, y, r, rfl, hxy, e1⟩ := am_ifa_i es
    obtain ⟨t, ht, ⟨hc, e2⟩ | ⟨hc, e2⟩⟩ := am_br_i e1 <;> cases e2
  | tableswitch d lo hi offs =>
    obtain ⟨x, r, rfl, ⟨hc, e1⟩ | ⟨hc, off, ho, e1⟩⟩ := am_tsw_i es <;> obtain ⟨t, ht, e2⟩ := am_jp_i e1 <;> cases e2
  | invokevirtual i =>
    have hf : (if a = 1 then am_w w (.methodLink (am_cnm M.1) i am_gcN) else am_mok M.1 i a b w z false false) = true := hw.2
    have es2 : am_ivv M a b pc ls st h = some (.inr (.inr q)) := es
    rcases am_ivv_i es2 with ⟨ha, x, r, n, y, rfl, hh, hn, e1⟩ | ⟨mj, x, r, fs, ha, hs, hh, hb9, e1⟩
    · cases e1
    · obtain ⟨N, h1, h2, h3, h4, h5, e2⟩ := am_cl_i e1
      cases e2
      rw [if_neg (by omega)] at hf
      obtain ⟨Yj, y1, y2, y3, y4, y5, y6⟩ := am_mok_i hf
      have e9 : a - 10 = mj := by omega
      rw [e9] at y1
      refine ⟨N, h1, h3, h5, rfl, Yj, y1, fun v h' hy hct hmo hrm KK => ?_⟩
      have hown : am_own mj = N.1 := by unfold am_own; rw [h1]
      rw [hown] at hh
      have hn9 : ((st.take b).reverse).length = Yj.2.2.2.1 := by rw [List.length_reverse, List.length_take, y4]; omega
      have hnm : ¬ Yj.1.name = "<init>" := by rw [y6]; decide
      have f8 : Yj.1.cls = am_cnm N.1 := (am_yok_inv hy).2.2.2.2.2.2.2.1
      intro H locs cells slots cl hI hL
      have hr : ∃ rc, vwCl[N.1]? = some rc := am_own12 hI.1 hh (am_fr8 N (List.mem_of_getElem? h1)).2
      obtain ⟨rc, hr⟩ := hr
      have hrc : rc.1 = Yj.1.cls := (am_cn12 hr).trans f8.symm
      have T9 : am_Kn p l e R s m args below meth c Q G k0 z0 pc ls (((st.take b).reverse).reverse ++ .ref x :: r) h := by
        rcases y3 with ⟨-, hl⟩ | ⟨-, hl⟩
        · exact am_o_callV hx hb (hml.trans hlen.symm) hK hE ho hy hr hrc hh y5 hnm (hK.w hl rfl args) hn9 hct hmo h2 (Nat.le_trans h3 hfr) (Nat.le_trans h4 hlo) hrm (am_dec rfl hw.1) KK
        · exact am_o_callVN hx hb (hml.trans hlen.symm) hK hE ho hy hr hrc hh y5 hnm (hK.w hl rfl args) hn9 hct hmo h2 (Nat.le_trans h3 hfr) (Nat.le_trans h4 hlo) hrm (am_dec rfl hw.1) KK
      rw [List.reverse_reverse, ← hs, List.take_append_drop] at T9
      exact T9 H locs cells slots cl hI hL
  | invokespecial i =>
    have hf : (if a = 0 then am_w w (.methodLink (am_cnm M.1) i objectInit) else am_mok M.1 i a b w z false true) = true := hw.2
    have es2 : am_ivi M a b pc ls st h = some (.inr (.inr q)) := es
    rcases am_ivi_i es2 with ⟨ha, x, r, rfl, hn, e1⟩ | ⟨ha0, mj, x, r, ha, hs, hb9, e1⟩
    · cases e1
    · obtain ⟨N, h1, h2, h3, h4, h5, e2⟩ := am_cl_i e1
      cases e2
      rw [if_neg ha0] at hf
      obtain ⟨Yj, y1, y2, y3, y4, y5, y6⟩ := am_mok_i hf
      have e9 : a - 10 = mj := by omega
      rw [e9] at y1
      refine ⟨N, h1, h3, h5, rfl, Yj, y1, fun v h' hy hct hmo hrm KK => ?_⟩
      have hn9 : ((st.take b).reverse).length = Yj.2.2.2.1 := by rw [List.length_reverse, List.length_take, y4]; omega
      have hnm : Yj.1.name = "<init>" := by rw [y6]
      obtain ⟨-, -, -, -, -, -, -, -, f9, f10⟩ := am_yok_inv hy
      have hi4 : N.2.2.1 = 4 := am_ini4 N (List.mem_of_getElem? h1) (by rw [f9]; exact decide_eq_true hnm)
      rw [hi4] at f10
      have hrn : Yj.2.2.1 = none := of_decide_eq_true f10
      have T9 : am_Kn p l e R s m args below meth c Q G k0 z0 pc ls (((st.take b).reverse).reverse ++ .ref x :: r) h := by
        rcases y3 with ⟨-, hl⟩ | ⟨-, hl⟩
        · exact am_o_callI hx hb (hml.trans hlen.symm) hK hE ho hy y5 hnm hrn (hK.w hl rfl args) hn9 hct hmo h2 (Nat.le_trans h3 hfr) (Nat.le_trans h4 hlo) hrm (am_dec rfl hw.1) KK
        · exact am_o_callIN hx hb (hml.trans hlen.symm) hK hE ho hy y5 hnm hrn (hK.w hl rfl args) hn9 hct hmo h2 (Nat.le_trans h3 hfr) (Nat.le_trans h4 hlo) hrm (am_dec rfl hw.1) KK
      rw [List.reverse_reverse, ← hs, List.take_append_drop] at T9
      exact T9
  | invokestatic i =>
    have hf : (if a = 2 ∨ a = 3 then am_w w (.methodLink (am_cnm M.1) i arraycopyName) else if a = 4 then am_w w (.methodLink (am_cnm M.1) i Lib.Math.abs.name) else if a = 5 then am_w w (.methodLink (am_cnm M.1) i Lib.Math.max.name) else if a = 6 then am_w w (.methodLink (am_cnm M.1) i Lib.Math.min.name) else am_mok M.1 i a b w z true false) = true := hw.2
    have es2 : am_ivs M a b pc ls st h = some (.inr (.inr q)) := es
    rcases am_ivs_i es2 with ⟨ha, n, dp, y, sp, x, r, n0, n1, f, g, rfl, hh, hh2, hn, hc, hr, e1⟩ | ⟨ha, n, dp, y, sp, x, r, n0, n1, f, g, rfl, hh, hh2, hn, hc, hr, e1⟩ | ⟨ha, x, r, rfl, hn, e1⟩ | ⟨ha, x, y, r, rfl, hn, e1⟩ | ⟨ha, x, y, r, rfl, hn, e1⟩ | ⟨mj, ha, hb9, e1⟩
    · cases e1
    · cases e1
    · cases e1
    · cases e1
    · cases e1
    · obtain ⟨N, h1, h2, h3, h4, h5, e2⟩ := am_cl_i e1
      cases e2
      rw [if_neg (by omega), if_neg (by omega), if_neg (by omega), if_neg (by omega)] at hf
      obtain ⟨Yj, y1, y2, y3, y4, y5, y6⟩ := am_mok_i hf
      have e9 : a - 10 = mj := by omega
      rw [e9] at y1
      refine ⟨N, h1, h3, h5, rfl, Yj, y1, fun v h' hy hct hmo hrm KK => ?_⟩
      have hn9 : ((st.take b).reverse).length = Yj.2.2.2.1 := by rw [List.length_reverse, List.length_take, y4]; omega
      have T9 : am_Kn p l e R s m args below meth c Q G k0 z0 pc ls (((st.take b).reverse).reverse ++ st.drop b) h := by
        rcases y3 with ⟨-, hl⟩ | ⟨-, hl⟩
        · exact am_o_callS hx hb (hml.trans hlen.symm) hK hE ho hy y5 (hK.w hl rfl args) hn9 hct hmo h2 (Nat.le_trans h3 hfr) (Nat.le_trans h4 hlo) hrm (am_dec rfl hw.1) KK
        · exact am_o_callSN hx hb (hml.trans hlen.symm) hK hE ho hy y5 (hK.w hl rfl args) hn9 hct hmo h2 (Nat.le_trans h3 hfr) (Nat.le_trans h4 hlo) hrm (am_dec rfl hw.1) KK
      rw [List.reverse_reverse, List.take_append_drop] at T9
      exact T9
  | ireturn => obtain ⟨x, -, -, e1⟩ := am_rtI_i es; cases e1
  | lreturn => obtain ⟨x, -, -, e1⟩ := am_rtL_i es; cases e1
  | areturn => obtain ⟨x, -, -, e1⟩ := am_rtA_i es; cases e1
  | return_ => obtain ⟨-, -, e1⟩ := am_rtV_i es; cases e1
  | _ => exact absurd es (by simp [am_step])
end AMU
theorem am_mono : ∀ (f : Nat) {mi : Nat} {fr : am_F} {h h' : am_H} {v : Option Value}, am_run f mi fr h = some (v, h') → h.length ≤ h'.length ∧ am_sz h ≤ am_sz h'
  | 0, _, _, _, _, _, e => by cases e
  | f + 1, mi, fr, h, h', v, e => by
    unfold am_run at e
    split at e
    · cases e
    · split at e
      · cases e
      · split at e
        · cases e
        · rename_i q hs
          have k := am_keep hs
          have k2 := am_mono f e
          exact ⟨Nat.le_trans k.2.1 k2.1, Nat.le_trans k.2.2 k2.2⟩
        · cases e
          exact ⟨Nat.le_refl _, Nat.le_refl _⟩
        · split at e
          · cases e
          · rename_i w hr
            have k1 := am_mono f (v := w.1) (h' := w.2) hr
            have k2 := am_mono f e
            exact ⟨Nat.le_trans k1.1 k2.1, Nat.le_trans k1.2 k2.2⟩
/-- what is owed where a run returns -/
def am_Rt (p : Program) (l : Launch) (e : Env) (R : Room) (s : State) (m : MethodId) (args : Array Value) (below : List Frame) (meth : Method) (c : Code) (Q : State → Prop) (G : am_G) (k0 z0 : Nat) (M : am_M) (Y : am_Y) (v : Option Value) (h' : am_H) : Prop :=
  ∀ (i : Instr) (pc : Nat) (H : Heap) (locs : List Loc) (cells slots : Nat) (cl : Array Slot), decode Y.2.1 pc = .ok (i, 1) → am_retk M i v → am_I G s h' H locs cells slots k0 z0 → W p l e R s m args below meth c H locs cells slots Q (F0 m pc cl (v.toList.map (am_cv G)))
def am_All (l : Launch) (G : am_G) (F : Nat) : Prop := ∀ (f : Nat), f < F → ∀ (mj : Nat) (as : List Value) (h h' : am_H) (v : Option Value) (N : am_M) (Y : am_Y), am_mt[mj]? = some N → am_my[mj]? = some Y → mj < 195 → (am_ent as).length ≤ N.2.2.2.1 → am_run f mj (am_en mj as) h = some (v, h') → am_Ms l G N Y as h v h'
section AMZ
variable {p : Program} {l : Launch} {e : Env} {R : Room} {s : State} {m : MethodId} {args : Array Value} {below : List Frame} {meth : Method} {c : Code} {Q : State → Prop} {G : am_G} {k0 z0 : Nat} {pc : Nat} {ls : am_L} {st : List Value} {h h' : am_H} {M : am_M} {Y : am_Y}
theorem am_core {F : Nat} (hF : am_All l G F) {mi : Nat} (hM : am_mt[mi]? = some M) (hrows : ∀ q ∈ M.2.2.2.2.2.2, am_rok M.1 Y.2.1 q = true) (hC : am_Cx p s m args meth c R G M Y) {v : Option Value} {h9 : am_H} (hrm : h9.length ≤ R.cells + k0 ∧ am_sz h9 ≤ R.slots + z0) (hret : am_Rt p l e R s m args below meth c Q G k0 z0 M Y v h9) : ∀ (f : Nat), f ≤ F → ∀ {pc : Nat} {ls : am_L} {st : List Value} {h : am_H}, ls.length = M.2.2.2.1 → am_run f mi (pc, ls, st) h = some (v, h9) → am_Kn p l e R s m args below meth c Q G k0 z0 pc ls st h
  | 0, _, _, _, _, _, _, hrun => by cases hrun
  | f + 1, hfF, pc, ls, st, h, hlen, hrun => by
    unfold am_run at hrun
    rw [hM] at hrun
    dsimp only at hrun
    split at hrun
    · cases hrun
    · rename_i r hfe
      have hrow := hrows _ (am_fe_mem hfe)
      split at hrun
      · cases hrun
      · rename_i q hs
        have hs : am_step M r pc ls st h = some (.inl q) := hs
        have k := am_keep hs
        have k2 := am_mono f hrun
        exact am_ok1 hC hrow hlen hs ⟨Nat.le_trans k2.1 hrm.1, Nat.le_trans k2.2 hrm.2⟩ (am_core hF hM hrows hC hrm hret f (by omega) (k.1.trans hlen) hrun)
      · rename_i w hs
        have hs : am_step M r pc ls st h = some (.inr (.inl w)) := hs
        cases hrun
        obtain ⟨h1, h2⟩ := am_okr hs
        subst h2
        have hw := hrow
        unfold am_rok at hw
        rw [Bool.and_eq_true] at hw
        have hd : decode Y.2.1 pc = .ok (r.1, 1) := by
          rcases h1 with ⟨h1, -⟩ | ⟨h1, -⟩ | ⟨h1, -⟩ | ⟨h1, -⟩
          · rw [h1]; exact am_dec rfl (h1 ▸ hw.1)
          · rw [h1]; exact am_dec rfl (h1 ▸ hw.1)
          · rw [h1]; exact am_dec rfl (h1 ▸ hw.1)
          · rw [h1]; exact am_dec rfl (h1 ▸ hw.1)
        exact fun H locs cells slots cl hI hL => hret r.1 pc H locs cells slots cl hd h1 hI
      · rename_i q hs
        have hs : am_step M r pc ls st h = some (.inr (.inr q)) := hs
        split at hrun
        · cases hrun
        · rename_i w hr
          obtain ⟨N, h1, h2, h3, h4, Yj, h5, h6⟩ := am_okc (l := l) (e := e) (below := below) (Q := Q) (k0 := k0) (z0 := z0) hC hrow hlen hs
          have hj := am_cee h1 (List.mem_of_getElem? hM) h2
          have hy := (am_meth h1 h5 hj).1
          have k1 := am_mono f (v := w.1) (h' := w.2) hr
          have k2 := am_mono f hrun
          refine h6 w.1 w.2 hy (hF f (by omega) q.1 q.2.1 h w.2 w.1 N Yj h1 h5 hj h3 hr) k1 ⟨Nat.le_trans k2.1 hrm.1, Nat.le_trans k2.2 hrm.2⟩ ?_
          rw [h4] at hrun ⊢
          exact am_core hF hM hrows hC hrm hret f (by omega) hlen hrun
end AMZ
theorem am_padlen {n : Nat} {l : am_L} (h : l.length ≤ n) : (am_pad n l).length = n := by
  unfold am_pad
  rw [List.length_append, List.length_replicate]
  omega
/-- every run of a method is kept by the big machine -/
theorem am_all (l : Launch) (G : am_G) : ∀ F, am_All l G F
  | 0 => fun f hf => absurd hf (Nat.not_lt_zero f)
  | F + 1 => by
    have IH := am_all l G F
    intro f hf mj as h h' v N Y hN hY hj hent hrun
    obtain ⟨hy, hrows⟩ := am_meth hN hY hj
    obtain ⟨f1, f2, f3, f4, f5, f6, f7, f8, f9, f10⟩ := am_yok_inv hy
    have hmo := am_mono f hrun
    refine Met.ofW (cc := Y.2.1) (maxL := N.2.2.2.1) (ret := Y.2.2.1) f6 rfl ?_
    intro p e s m args below meth c s₁ B hml hP
    obtain ⟨rfl, hK, hE, hPP⟩ := hP
    rw [lg_entry_eq]
    have hC : am_Cx p s m ((as.map (am_cv G)).toArray) meth c (am_rm N h h') G N Y := ⟨B.exec, B.bytes, hml, by rw [← f8]; exact findClass_of_methodNamed B.named, hK, hE, fun hi => by rw [(name_of_methodNamed B.named B.method).1]; rw [f9] at hi; exact of_decide_eq_true hi, Nat.le_refl _, Nat.le_refl _⟩
    have hen : am_en mj as = (0, am_pad N.2.2.2.1 (am_ent as), []) := by unfold am_en; rw [hN]
    rw [hen] at hrun
    have hrm : h'.length ≤ (am_rm N h h').cells + h.length ∧ am_sz h' ≤ (am_rm N h h').slots + am_sz h := by
      show h'.length ≤ (h'.length - h.length) + h.length ∧ am_sz h' ≤ (am_sz h' - am_sz h) + am_sz h
      omega
    have hret : am_Rt p l e (am_rm N h h') s m ((as.map (am_cv G)).toArray) below meth c (MQ below (am_Qc G v h') ((as.map (am_cv G)).toArray) s (h'.length - h.length) (am_sz h' - am_sz h) (am_A G)) G h.length (am_sz h) N Y v h' := by
      intro i pc H locs cells slots cl hd hk hI
      have c1 : cells = h'.length - h.length := by have := hI.2.2.1; omega
      have c2 : slots = am_sz h' - am_sz h := by have := hI.2.2.2.1; omega
      subst c1
      subst c2
      have hq0 : ∀ (o : Outcome), o = .returned (v.map (am_cv G)) → ∀ t : State, t.heap = H → s.WarmedH t.vm → am_Qc G v h' ((as.map (am_cv G)).toArray) s o t := fun o ho t ht _ => ⟨ho, by rw [ht]; exact hI.1, fun q hq => by rw [ht]; exact hI.2.1.2.1 q (Nat.lt_of_lt_of_le hq hE.1.2.2) (Nat.not_le.mpr hq)⟩
      rcases hk with ⟨rfl, x, rfl, hx⟩ | ⟨rfl, x, rfl, hx⟩ | ⟨rfl, x, rfl, hx⟩ | ⟨rfl, rfl, hx⟩
      · rcases hx with hx | ⟨hx, hx2⟩
        · rw [hx] at f10
          exact W.iret B.exec B.bytes (B.returns.trans (of_decide_eq_true f10)) (hq0 _ rfl) hI.2.1.2.2 hd
        · rw [hx] at f10
          exact W.zret (ty := .boolean) B.exec B.bytes (B.returns.trans (of_decide_eq_true f10)) (by rcases hx2 with rfl | rfl <;> decide +kernel) (hq0 _ rfl) hI.2.1.2.2 hd
      · rw [hx] at f10
        exact W.lret B.exec B.bytes (B.returns.trans (of_decide_eq_true f10)) (hq0 _ rfl) hI.2.1.2.2 hd
      · rw [hx] at f10
        cases hY3 : Y.2.2.1 with
        | none => rw [hY3] at f10; cases f10
        | some ty =>
          rw [hY3] at f10
          cases ty with
          | object n => exact W.aret B.exec B.bytes (B.returns.trans hY3) (Or.inl ⟨n, rfl⟩) (Or.inr ⟨_, rfl⟩) (hq0 _ rfl) hI.2.1.2.2 hd
          | array n => exact W.aret B.exec B.bytes (B.returns.trans hY3) (Or.inr ⟨n, rfl⟩) (Or.inr ⟨_, rfl⟩) (hq0 _ rfl) hI.2.1.2.2 hd
          | _ => cases f10
      · rw [hx] at f10
        exact W.vret B.exec B.bytes (B.returns.trans (of_decide_eq_true f10)) (hq0 _ rfl) hI.2.1.2.2 hd
    exact am_core IH hN hrows hC hrm hret f (by omega) (am_padlen hent) hrun s.heap [] 0 0 _ ⟨hPP, va_S.rf, by omega, by omega, hPP.2.2⟩ (am_LV.entry G as hent)
