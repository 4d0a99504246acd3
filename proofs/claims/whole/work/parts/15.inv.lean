/-! what a step was, out of what it gave -/
def am_acd (k : Jvm.ClassFile.ACond) (x y : Nat) : Bool := match k with
  | .eq => decide (x = y)
  | .ne => decide (¬ x = y)
theorem am_jp_i {pc : Nat} {off : Int} {ls : am_L} {st : List Value} {h : am_H} {o : am_O} (e : am_jp pc off ls st h = some o) : ∃ t, am_tg pc off = some t ∧ o = .inl ((t, ls, st), h) := by
  unfold am_jp at e
  repeat' split at e
  all_goals first
    | (exfalso; cases e; done)
    | (unfold am_nx at e; cases e; exact ⟨_, (by assumption), rfl⟩)
theorem am_br_i {c : Bool} {pc : Nat} {off : Int} {ls : am_L} {st : List Value} {h : am_H} {o : am_O} (e : am_br c pc off ls st h = some o) : ∃ t, am_tg pc off = some t ∧ ((c = true ∧ o = .inl ((t, ls, st), h)) ∨ (¬ c = true ∧ o = .inl ((pc + 3, ls, st), h))) := by
  unfold am_br at e
  split at e
  · rename_i t ht
    split at e
    · rename_i hc
      unfold am_nx at e
      cases e
      exact ⟨t, ht, Or.inl ⟨hc, rfl⟩⟩
    · rename_i hc
      unfold am_nx at e
      cases e
      exact ⟨t, ht, Or.inr ⟨hc, rfl⟩⟩
  · cases e
theorem am_ldI_i {pc i : Nat} {ls : am_L} {st : List Value} {h : am_H} {o : am_O} (e : am_ldI pc i ls st h = some o) : ∃ x, ls[i]? = some (some (.int x)) ∧ o = .inl ((pc, ls, .int x :: st), h) := by
  unfold am_ldI at e
  repeat' split at e
  all_goals first
    | (exfalso; cases e; done)
    | (unfold am_nx at e; cases e; exact ⟨_, (by assumption), rfl⟩)
theorem am_stI_i {pc i : Nat} {ls : am_L} {st : List Value} {h : am_H} {o : am_O} (e : am_stI pc i ls st h = some o) : ∃ x r ls', st = .int x :: r ∧ am_st1 ls i (.int x) = some ls' ∧ o = .inl ((pc, ls', r), h) := by
  unfold am_stI at e
  repeat' split at e
  all_goals first
    | (exfalso; cases e; done)
    | (unfold am_nx at e; cases e; exact ⟨_, _, _, rfl, (by assumption), rfl⟩)
theorem am_ldL_i {pc i : Nat} {ls : am_L} {st : List Value} {h : am_H} {o : am_O} (e : am_ldL pc i ls st h = some o) : ∃ x, ls[i]? = some (some (.long x)) ∧ o = .inl ((pc, ls, .long x :: st), h) := by
  unfold am_ldL at e
  repeat' split at e
  all_goals first
    | (exfalso; cases e; done)
    | (unfold am_nx at e; cases e; exact ⟨_, (by assumption), rfl⟩)
theorem am_stL_i {pc i : Nat} {ls : am_L} {st : List Value} {h : am_H} {o : am_O} (e : am_stL pc i ls st h = some o) : ∃ x r ls', st = .long x :: r ∧ am_st2 ls i (.long x) = some ls' ∧ o = .inl ((pc, ls', r), h) := by
  unfold am_stL at e
  repeat' split at e
  all_goals first
    | (exfalso; cases e; done)
    | (unfold am_nx at e; cases e; exact ⟨_, _, _, rfl, (by assumption), rfl⟩)
theorem am_ldA_i {pc i : Nat} {ls : am_L} {st : List Value} {h : am_H} {o : am_O} (e : am_ldA pc i ls st h = some o) : ∃ x, ls[i]? = some (some (.ref x)) ∧ o = .inl ((pc, ls, .ref x :: st), h) := by
  unfold am_ldA at e
  repeat' split at e
  all_goals first
    | (exfalso; cases e; done)
    | (unfold am_nx at e; cases e; exact ⟨_, (by assumption), rfl⟩)
theorem am_stA_i {pc i : Nat} {ls : am_L} {st : List Value} {h : am_H} {o : am_O} (e : am_stA pc i ls st h = some o) : ∃ x r ls', st = .ref x :: r ∧ am_st1 ls i (.ref x) = some ls' ∧ o = .inl ((pc, ls', r), h) := by
  unfold am_stA at e
  repeat' split at e
  all_goals first
    | (exfalso; cases e; done)
    | (unfold am_nx at e; cases e; exact ⟨_, _, _, rfl, (by assumption), rfl⟩)
theorem am_inc_i {pc i : Nat} {k : Int} {ls : am_L} {st : List Value} {h : am_H} {o : am_O} (e : am_inc pc i k ls st h = some o) : ∃ x ls', ls[i]? = some (some (.int x)) ∧ am_st1 ls i (.int (x + Int32.ofInt k)) = some ls' ∧ o = .inl ((pc, ls', st), h) := by
  unfold am_inc at e
  repeat' split at e
  all_goals first
    | (exfalso; cases e; done)
    | (unfold am_nx at e; cases e; exact ⟨_, _, (by assumption), (by assumption), rfl⟩)
theorem am_b2_i {f : Int32 → Int32 → Int32} {pc : Nat} {ls : am_L} {st : List Value} {h : am_H} {o : am_O} (e : am_b2 f pc ls st h = some o) : ∃ x y r, st = .int y :: .int x :: r ∧ o = .inl ((pc + 1, ls, .int (f x y) :: r), h) := by
  unfold am_b2 at e
  repeat' split at e
  all_goals first
    | (exfalso; cases e; done)
    | (unfold am_nx at e; cases e; exact ⟨_, _, _, rfl, rfl⟩)
theorem am_b2z_i {f : Int32 → Int32 → Int32} {pc : Nat} {ls : am_L} {st : List Value} {h : am_H} {o : am_O} (e : am_b2z f pc ls st h = some o) : ∃ x y r, st = .int y :: .int x :: r ∧ ¬ y = 0 ∧ o = .inl ((pc + 1, ls, .int (f x y) :: r), h) := by
  unfold am_b2z at e
  repeat' split at e
  all_goals first
    | (exfalso; cases e; done)
    | (unfold am_nx at e; cases e; exact ⟨_, _, _, rfl, (by assumption), rfl⟩)
theorem am_u1_i {f : Int32 → Int32} {pc : Nat} {ls : am_L} {st : List Value} {h : am_H} {o : am_O} (e : am_u1 f pc ls st h = some o) : ∃ x r, st = .int x :: r ∧ o = .inl ((pc + 1, ls, .int (f x) :: r), h) := by
  unfold am_u1 at e
  repeat' split at e
  all_goals first
    | (exfalso; cases e; done)
    | (unfold am_nx at e; cases e; exact ⟨_, _, rfl, rfl⟩)
theorem am_l2_i {f : Int64 → Int64 → Int64} {pc : Nat} {ls : am_L} {st : List Value} {h : am_H} {o : am_O} (e : am_l2 f pc ls st h = some o) : ∃ x y r, st = .long y :: .long x :: r ∧ o = .inl ((pc + 1, ls, .long (f x y) :: r), h) := by
  unfold am_l2 at e
  repeat' split at e
  all_goals first
    | (exfalso; cases e; done)
    | (unfold am_nx at e; cases e; exact ⟨_, _, _, rfl, rfl⟩)
theorem am_lcm_i {pc : Nat} {ls : am_L} {st : List Value} {h : am_H} {o : am_O} (e : am_lcm pc ls st h = some o) : ∃ x y r, st = .long y :: .long x :: r ∧ o = .inl ((pc + 1, ls, .int (lg_cmp x y) :: r), h) := by
  unfold am_lcm at e
  repeat' split at e
  all_goals first
    | (exfalso; cases e; done)
    | (unfold am_nx at e; cases e; exact ⟨_, _, _, rfl, rfl⟩)
theorem am_i2l_i {pc : Nat} {ls : am_L} {st : List Value} {h : am_H} {o : am_O} (e : am_i2l pc ls st h = some o) : ∃ x r, st = .int x :: r ∧ o = .inl ((pc + 1, ls, .long x.toInt64 :: r), h) := by
  unfold am_i2l at e
  repeat' split at e
  all_goals first
    | (exfalso; cases e; done)
    | (unfold am_nx at e; cases e; exact ⟨_, _, rfl, rfl⟩)
theorem am_dup_i {pc : Nat} {ls : am_L} {st : List Value} {h : am_H} {o : am_O} (e : am_dup pc ls st h = some o) : ∃ v r, st = v :: r ∧ v.category = 1 ∧ o = .inl ((pc + 1, ls, v :: v :: r), h) := by
  unfold am_dup at e
  repeat' split at e
  all_goals first
    | (exfalso; cases e; done)
    | (unfold am_nx at e; cases e; exact ⟨_, _, rfl, (by assumption), rfl⟩)
theorem am_pop_i {pc : Nat} {ls : am_L} {st : List Value} {h : am_H} {o : am_O} (e : am_pop pc ls st h = some o) : ∃ v r, st = v :: r ∧ v.category = 1 ∧ o = .inl ((pc + 1, ls, r), h) := by
  unfold am_pop at e
  repeat' split at e
  all_goals first
    | (exfalso; cases e; done)
    | (unfold am_nx at e; cases e; exact ⟨_, _, rfl, (by assumption), rfl⟩)
theorem am_dx1_i {pc : Nat} {ls : am_L} {st : List Value} {h : am_H} {o : am_O} (e : am_dx1 pc ls st h = some o) : ∃ v w r, st = v :: w :: r ∧ (v.category = 1 ∧ w.category = 1) ∧ o = .inl ((pc + 1, ls, v :: w :: v :: r), h) := by
  unfold am_dx1 at e
  repeat' split at e
  all_goals first
    | (exfalso; cases e; done)
    | (unfold am_nx at e; cases e; exact ⟨_, _, _, rfl, (by assumption), rfl⟩)
theorem am_du2_i {pc : Nat} {ls : am_L} {st : List Value} {h : am_H} {o : am_O} (e : am_du2 pc ls st h = some o) : ∃ v w r, st = v :: w :: r ∧ (v.category = 1 ∧ w.category = 1) ∧ o = .inl ((pc + 1, ls, v :: w :: v :: w :: r), h) := by
  unfold am_du2 at e
  repeat' split at e
  all_goals first
    | (exfalso; cases e; done)
    | (unfold am_nx at e; cases e; exact ⟨_, _, _, rfl, (by assumption), rfl⟩)
theorem am_if1_i {k : Jvm.ClassFile.Cond} {pc : Nat} {off : Int} {ls : am_L} {st : List Value} {h : am_H} {o : am_O} (e : am_if1 k pc off ls st h = some o) : ∃ x r, st = .int x :: r ∧ am_br (am_cd k x 0) pc off ls r h = some o := by
  unfold am_if1 at e
  split at e
  · exact ⟨_, _, rfl, e⟩
  · cases e
theorem am_if2_i {k : Jvm.ClassFile.Cond} {pc : Nat} {off : Int} {ls : am_L} {st : List Value} {h : am_H} {o : am_O} (e : am_if2 k pc off ls st h = some o) : ∃ x y r, st = .int y :: .int x :: r ∧ am_br (am_cd k x y) pc off ls r h = some o := by
  unfold am_if2 at e
  split at e
  · exact ⟨_, _, _, rfl, e⟩
  · cases e
theorem am_ifa_i {k : Jvm.ClassFile.ACond} {pc : Nat} {off : Int} {ls : am_L} {st : List Value} {h : am_H} {o : am_O} (e : am_ifa k pc off ls st h = some o) : ∃ x y r, st = .ref y :: .ref x :: r ∧ ((x = 2 ∧ y = 2) ∨ ((x = 1 ∨ 3 ≤ x) ∧ (y = 1 ∨ 3 ≤ y))) ∧ am_br (am_acd k x y) pc off ls r h = some o := by
  unfold am_ifa at e
  cases st with
  | nil => cases e
  | cons v t => cases v with
    | ref y => cases t with
      | nil => cases e
      | cons w u => cases w with
        | ref x =>
          dsimp only at e
          by_cases hc : (x = 2 ∧ y = 2) ∨ ((x = 1 ∨ 3 ≤ x) ∧ (y = 1 ∨ 3 ≤ y))
          · rw [if_pos hc] at e
            exact ⟨x, y, u, rfl, hc, by cases k <;> exact e⟩
          · rw [if_neg hc] at e
            cases e
        | _ => cases e
    | _ => cases e
theorem am_tsw_i {d lo hi : Int} {offs : Array Int} {pc : Nat} {ls : am_L} {st : List Value} {h : am_H} {o : am_O} (e : am_tsw d lo hi offs pc ls st h = some o) : ∃ x r, st = .int x :: r ∧ (((x.toInt < lo ∨ hi < x.toInt) ∧ am_jp pc d ls r h = some o) ∨ (¬ (x.toInt < lo ∨ hi < x.toInt) ∧ ∃ off, offs[(x.toInt - lo).toNat]? = some off ∧ am_jp pc off ls r h = some o)) := by
  unfold am_tsw at e
  split at e
  · split at e
    · rename_i hc
      exact ⟨_, _, rfl, Or.inl ⟨hc, e⟩⟩
    · rename_i hc
      split at e
      · rename_i off ho
        exact ⟨_, _, rfl, Or.inr ⟨hc, off, ho, e⟩⟩
      · cases e
  · cases e
theorem am_gf_i {a b pc : Nat} {ls : am_L} {st : List Value} {h : am_H} {o : am_O} (e : am_gf a b pc ls st h = some o) : ∃ x r fs v, st = .ref x :: r ∧ h[x]? = some (.inr (a, fs)) ∧ fs[b]? = some v ∧ o = .inl ((pc + 3, ls, v :: r), h) := by
  unfold am_gf at e
  split at e
  · split at e
    · rename_i hh
      split at e
      · rename_i hc
        subst hc
        split at e
        · rename_i hv
          unfold am_nx at e
          cases e
          exact ⟨_, _, _, _, rfl, hh, hv, rfl⟩
        · cases e
      · cases e
    · cases e
  · cases e
theorem am_pf_i {M : am_M} {a b pc : Nat} {ls : am_L} {st : List Value} {h : am_H} {o : am_O} (e : am_pf M a b pc ls st h = some o) : ∃ v x r fs, st = v :: .ref x :: r ∧ h[x]? = some (.inr (a, fs)) ∧ b < fs.length ∧ am_okf (am_tyf a b) v = true ∧ (am_fin a b = true → M.2.1 = true ∧ M.1 = a) ∧ o = .inl ((pc + 3, ls, r), h.set x (.inr (a, fs.set b v))) := by
  unfold am_pf at e
  split at e
  · split at e
    · rename_i hh
      split at e
      · rename_i hc
        obtain ⟨rfl, h2, h3, h4⟩ := hc
        unfold am_nx at e
        cases e
        exact ⟨_, _, _, _, rfl, hh, h2, h3, h4, rfl⟩
      · cases e
    · cases e
  · cases e
theorem am_ial_i {pc : Nat} {ls : am_L} {st : List Value} {h : am_H} {o : am_O} (e : am_ial pc ls st h = some o) : ∃ i x r t n f, st = .int i :: .ref x :: r ∧ h[x]? = some (.inl (t, n, .inl f)) ∧ (t = 0 ∨ (t = 9 ∧ x = 0)) ∧ am_outb i n = false ∧ o = .inl ((pc + 1, ls, .int (f i.toNatClampNeg) :: r), h) := by
  unfold am_ial at e
  split at e
  · split at e
    · rename_i hh
      split at e
      · rename_i hc
        unfold am_nx at e
        cases e
        exact ⟨_, _, _, _, _, _, rfl, hh, hc.1, hc.2, rfl⟩
      · cases e
    · cases e
  · cases e
theorem am_bal_i {pc : Nat} {ls : am_L} {st : List Value} {h : am_H} {o : am_O} (e : am_bal pc ls st h = some o) : ∃ i x r t n f, st = .int i :: .ref x :: r ∧ h[x]? = some (.inl (t, n, .inl f)) ∧ (t = 1 ∨ t = 2) ∧ am_outb i n = false ∧ o = .inl ((pc + 1, ls, .int (f i.toNatClampNeg) :: r), h) := by
  unfold am_bal at e
  split at e
  · split at e
    · rename_i hh
      split at e
      · rename_i hc
        unfold am_nx at e
        cases e
        exact ⟨_, _, _, _, _, _, rfl, hh, hc.1, hc.2, rfl⟩
      · cases e
    · cases e
  · cases e
theorem am_aal_i {pc : Nat} {ls : am_L} {st : List Value} {h : am_H} {o : am_O} (e : am_aal pc ls st h = some o) : ∃ i x r t n f, st = .int i :: .ref x :: r ∧ h[x]? = some (.inl (t, n, .inr (.inr (.inr (.inr f))))) ∧ (t = 3 ∨ t = 4) ∧ am_outb i n = false ∧ o = .inl ((pc + 1, ls, va_rf (f i.toNatClampNeg) :: r), h) := by
  unfold am_aal at e
  split at e
  · split at e
    · rename_i hh
      split at e
      · rename_i hc
        unfold am_nx at e
        cases e
        exact ⟨_, _, _, _, _, _, rfl, hh, hc.1, hc.2, rfl⟩
      · cases e
    · cases e
  · cases e
theorem am_ias_i {pc : Nat} {ls : am_L} {st : List Value} {h : am_H} {o : am_O} (e : am_ias pc ls st h = some o) : ∃ v i x r t n f, st = .int v :: .int i :: .ref x :: r ∧ h[x]? = some (.inl (t, n, .inl f)) ∧ (t = 0) ∧ am_outb i n = false ∧ o = .inl ((pc + 1, ls, r), h.set x (.inl (t, n, .inl (upd f i.toNatClampNeg v)))) := by
  unfold am_ias at e
  split at e
  · split at e
    · rename_i hh
      split at e
      · rename_i hc
        unfold am_nx at e
        cases e
        exact ⟨_, _, _, _, _, _, _, rfl, hh, hc.1, hc.2, rfl⟩
      · cases e
    · cases e
  · cases e
theorem am_bas_i {pc : Nat} {ls : am_L} {st : List Value} {h : am_H} {o : am_O} (e : am_bas pc ls st h = some o) : ∃ v i x r t n f, st = .int v :: .int i :: .ref x :: r ∧ h[x]? = some (.inl (t, n, .inl f)) ∧ (t = 1 ∨ t = 2) ∧ am_outb i n = false ∧ o = .inl ((pc + 1, ls, r), h.set x (.inl (t, n, .inl (upd f i.toNatClampNeg (am_nrw t v))))) := by
  unfold am_bas at e
  split at e
  · split at e
    · rename_i hh
      split at e
      · rename_i hc
        unfold am_nx at e
        cases e
        exact ⟨_, _, _, _, _, _, _, rfl, hh, hc.1, hc.2, rfl⟩
      · cases e
    · cases e
  · cases e
theorem am_aas_i {pc : Nat} {ls : am_L} {st : List Value} {h : am_H} {o : am_O} (e : am_aas pc ls st h = some o) : ∃ v i x r t n f ci, st = .ref v :: .int i :: .ref x :: r ∧ h[x]? = some (.inl (t, n, .inr (.inr (.inr (.inr f))))) ∧ am_obj h v = some ci ∧ (t = 3 ∨ (t = 4 ∧ ci = 7)) ∧ am_outb i n = false ∧ o = .inl ((pc + 1, ls, r), h.set x (.inl (t, n, .inr (.inr (.inr (.inr (va_up f i.toNatClampNeg (some v)))))))) := by
  unfold am_aas at e
  split at e
  · split at e
    · rename_i hh
      split at e
      · rename_i hv
        split at e
        · rename_i hc
          unfold am_nx at e
          cases e
          exact ⟨_, _, _, _, _, _, _, _, rfl, hh, hv, hc.1, hc.2, rfl⟩
        · cases e
      · cases e
    · cases e
  · cases e
theorem am_aln_i {pc : Nat} {ls : am_L} {st : List Value} {h : am_H} {o : am_O} (e : am_aln pc ls st h = some o) : ∃ x r t n a, st = .ref x :: r ∧ h[x]? = some (.inl (t, n, a)) ∧ (t < 5 ∨ (t = 9 ∧ x = 0) ∨ (t = 8 ∧ x = 1)) ∧ o = .inl ((pc + 1, ls, .int (Int32.ofNat n) :: r), h) := by
  unfold am_aln at e
  split at e
  · split at e
    · rename_i hh
      split at e
      · rename_i hc
        unfold am_nx at e
        cases e
        exact ⟨_, _, _, _, _, rfl, hh, hc, rfl⟩
      · cases e
    · cases e
  · cases e
theorem am_nwa_i {ty : ArrayType} {pc : Nat} {ls : am_L} {st : List Value} {h : am_H} {o : am_O} (e : am_nwa ty pc ls st h = some o) : ∃ n r t, st = .int n :: r ∧ ¬ n < 0 ∧ n.toNatClampNeg ≤ 100000 ∧ ((ty = .int ∧ t = 0) ∨ (ty = .byte ∧ t = 1) ∨ (ty = .boolean ∧ t = 2)) ∧ o = .inl ((pc + 2, ls, .ref h.length :: r), h ++ [.inl (t, n.toNatClampNeg, .inl (fun _ => 0))]) := by
  unfold am_nwa at e
  split at e
  · split at e
    · rename_i hc
      split at e
      · unfold am_nx at e
        cases e
        exact ⟨_, _, _, rfl, hc.1, hc.2, Or.inl ⟨rfl, rfl⟩, rfl⟩
      · unfold am_nx at e
        cases e
        exact ⟨_, _, _, rfl, hc.1, hc.2, Or.inr (Or.inl ⟨rfl, rfl⟩), rfl⟩
      · unfold am_nx at e
        cases e
        exact ⟨_, _, _, rfl, hc.1, hc.2, Or.inr (Or.inr ⟨rfl, rfl⟩), rfl⟩
      · cases e
    · cases e
  · cases e
theorem am_anw_i {a pc : Nat} {ls : am_L} {st : List Value} {h : am_H} {o : am_O} (e : am_anw a pc ls st h = some o) : ∃ n r, st = .int n :: r ∧ (¬ n < 0 ∧ n.toNatClampNeg ≤ 100000) ∧ o = .inl ((pc + 3, ls, .ref h.length :: r), h ++ [.inl (a, n.toNatClampNeg, .inr (.inr (.inr (.inr (fun _ => none)))))]) := by
  unfold am_anw at e
  repeat' split at e
  all_goals first
    | (exfalso; cases e; done)
    | (unfold am_nx at e; cases e; exact ⟨_, _, rfl, (by assumption), rfl⟩)
theorem am_new_i {a pc : Nat} {ls : am_L} {st : List Value} {h : am_H} {o : am_O} (e : am_new a pc ls st h = some o) : o = .inl ((pc + 3, ls, .ref h.length :: st), h ++ [.inr (a, am_dfl.getD a [])]) := by
  unfold am_new am_nx at e
  cases e
  rfl
theorem am_cst_i {a pc : Nat} {ls : am_L} {st : List Value} {h : am_H} {o : am_O} (e : am_cst a pc ls st h = some o) : ∃ x r fs, st = .ref x :: r ∧ h[x]? = some (.inr (a, fs)) ∧ o = .inl ((pc + 3, ls, .ref x :: r), h) := by
  unfold am_cst at e
  split at e
  · split at e
    · rename_i hh
      split at e
      · rename_i hc
        subst hc
        unfold am_nx at e
        cases e
        exact ⟨_, _, _, rfl, hh, rfl⟩
      · cases e
    · cases e
  · cases e
theorem am_ldc_i {a pc : Nat} {z : Int} {ls : am_L} {st : List Value} {h : am_H} {o : am_O} (e : am_ldc a z pc ls st h = some o) : (a = 1 ∧ o = .inl ((pc, ls, .ref 2 :: st), h)) ∨ (¬ a = 1 ∧ o = .inl ((pc, ls, .int (Int32.ofInt z) :: st), h)) := by
  unfold am_ldc at e
  split at e
  · rename_i hc
    unfold am_nx at e
    cases e
    exact Or.inl ⟨hc, rfl⟩
  · rename_i hc
    unfold am_nx at e
    cases e
    exact Or.inr ⟨hc, rfl⟩
theorem am_cl_i {M : am_M} {mj : Nat} {as rest : List Value} {pc : Nat} {ls : am_L} {o : am_O} (e : am_cl M mj as rest pc ls = some o) : ∃ N, am_mt[mj]? = some N ∧ am_sum rest ≤ 8 ∧ N.2.2.2.2.1 + 1 ≤ M.2.2.2.2.1 ∧ 8 + (N.2.2.2.1 + 11) + N.2.2.2.2.2.1 ≤ M.2.2.2.2.2.1 ∧ (am_ent as).length ≤ N.2.2.2.1 ∧ o = .inr (.inr (mj, as, (pc + 3, ls, rest))) := by
  unfold am_cl at e
  split at e
  · rename_i N hN
    split at e
    · rename_i hc
      cases e
      exact ⟨N, hN, hc.1, hc.2.1, hc.2.2.1, hc.2.2.2, rfl⟩
    · cases e
  · cases e
theorem am_nat_i {M : am_M} {st : List Value} (e : am_nat M st = true) : 1 ≤ M.2.2.2.2.1 ∧ am_sum st + 20 ≤ M.2.2.2.2.2.1 := by
  simp only [am_nat, Bool.and_eq_true, decide_eq_true_eq] at e
  exact e
theorem am_ivv_i {M : am_M} {a b pc : Nat} {ls : am_L} {st : List Value} {h : am_H} {o : am_O} (e : am_ivv M a b pc ls st h = some o) : (a = 1 ∧ ∃ x r n y, st = .ref x :: r ∧ h[x]? = some (.inl (3, n, y)) ∧ am_nat M r = true ∧ o = .inl ((pc + 3, ls, .ref 2 :: r), h)) ∨ (∃ mj x r fs, a = mj + 10 ∧ st.drop b = .ref x :: r ∧ h[x]? = some (.inr (am_own mj, fs)) ∧ b ≤ st.length ∧ am_cl M mj (.ref x :: (st.take b).reverse) r pc ls = some o) := by
  unfold am_ivv at e
  split at e
  · rename_i ha
    refine Or.inl ⟨ha, ?_⟩
    split at e
    · split at e
      · rename_i hh
        split at e
        · rename_i hc
          unfold am_nx at e
          cases e
          exact ⟨_, _, _, _, rfl, hh, hc.1, rfl⟩
        · cases e
      · cases e
    · cases e
  · refine Or.inr ?_
    split at e
    · split at e
      · rename_i hs
        split at e
        · rename_i hh
          split at e
          · rename_i hc
            obtain ⟨rfl, h2⟩ := hc
            exact ⟨_, _, _, _, rfl, hs, hh, h2, e⟩
          · cases e
        · cases e
      · cases e
    · cases e
theorem am_ivi_i {M : am_M} {a b pc : Nat} {ls : am_L} {st : List Value} {h : am_H} {o : am_O} (e : am_ivi M a b pc ls st h = some o) : (a = 0 ∧ ∃ x r, st = .ref x :: r ∧ am_nat M r = true ∧ o = .inl ((pc + 3, ls, r), h)) ∨ (¬ a = 0 ∧ ∃ mj x r, a = mj + 10 ∧ st.drop b = .ref x :: r ∧ b ≤ st.length ∧ am_cl M mj (.ref x :: (st.take b).reverse) r pc ls = some o) := by
  unfold am_ivi at e
  split at e
  · rename_i ha
    refine Or.inl ⟨ha, ?_⟩
    split at e
    · split at e
      · rename_i hc
        unfold am_nx at e
        cases e
        exact ⟨_, _, rfl, hc, rfl⟩
      · cases e
    · cases e
  · rename_i ha
    refine Or.inr ⟨ha, ?_⟩
    split at e
    · split at e
      · rename_i hs
        split at e
        · rename_i hc
          exact ⟨_, _, _, rfl, hs, hc, e⟩
        · cases e
      · cases e
    · cases e
theorem am_ivs_i {M : am_M} {a b pc : Nat} {ls : am_L} {st : List Value} {h : am_H} {o : am_O} (e : am_ivs M a b pc ls st h = some o) : (a = 2 ∧ ∃ n dp y sp x r n0 n1 f g, st = .int n :: .int dp :: .ref y :: .int sp :: .ref x :: r ∧ h[x]? = some (.inl (3, n0, .inr (.inr (.inr (.inr f))))) ∧ h[y]? = some (.inl (3, n1, .inr (.inr (.inr (.inr g))))) ∧ am_nat M r = true ∧ am_cpi sp dp n n0 n1 = true ∧ am_cpr h f sp.toNatClampNeg n.toNatClampNeg = true ∧ o = .inl ((pc + 3, ls, r), h.set y (.inl (3, n1, .inr (.inr (.inr (.inr (va_cpy f g sp.toNatClampNeg dp.toNatClampNeg n.toNatClampNeg))))))))
    ∨ (a = 3 ∧ ∃ n dp y sp x r n0 n1 f g, st = .int n :: .int dp :: .ref y :: .int sp :: .ref x :: r ∧ h[x]? = some (.inl (1, n0, .inl f)) ∧ h[y]? = some (.inl (1, n1, .inl g)) ∧ am_nat M r = true ∧ am_cpi sp dp n n0 n1 = true ∧ am_cpb f sp.toNatClampNeg n.toNatClampNeg = true ∧ o = .inl ((pc + 3, ls, r), h.set y (.inl (1, n1, .inl (va_cpy f g sp.toNatClampNeg dp.toNatClampNeg n.toNatClampNeg)))))
    ∨ (a = 4 ∧ ∃ x r, st = .int x :: r ∧ am_nat M r = true ∧ o = .inl ((pc + 3, ls, .int (if 0 ≤ x then x else 0 - x) :: r), h))
    ∨ (a = 5 ∧ ∃ x y r, st = .int y :: .int x :: r ∧ am_nat M r = true ∧ o = .inl ((pc + 3, ls, .int (if x < y then y else x) :: r), h))
    ∨ (a = 6 ∧ ∃ x y r, st = .int y :: .int x :: r ∧ am_nat M r = true ∧ o = .inl ((pc + 3, ls, .int (if y < x then y else x) :: r), h))
    ∨ (∃ mj, a = mj + 10 ∧ b ≤ st.length ∧ am_cl M mj (st.take b).reverse (st.drop b) pc ls = some o) := by
  unfold am_ivs at e
  split at e
  · rename_i ha
    refine Or.inl ⟨ha, ?_⟩
    split at e
    · split at e
      · rename_i hh
        split at e
        · rename_i hh2
          split at e
          · rename_i hc
            unfold am_nx at e
            cases e
            exact ⟨_, _, _, _, _, _, _, _, _, _, rfl, hh, hh2, hc.1, hc.2.1, hc.2.2, rfl⟩
          · cases e
        · cases e
      · cases e
    · cases e
  refine Or.inr ?_
  split at e
  · rename_i ha
    refine Or.inl ⟨ha, ?_⟩
    split at e
    · split at e
      · rename_i hh
        split at e
        · rename_i hh2
          split at e
          · rename_i hc
            unfold am_nx at e
            cases e
            exact ⟨_, _, _, _, _, _, _, _, _, _, rfl, hh, hh2, hc.1, hc.2.1, hc.2.2, rfl⟩
          · cases e
        · cases e
      · cases e
    · cases e
  refine Or.inr ?_
  split at e
  · rename_i ha
    refine Or.inl ⟨ha, ?_⟩
    split at e
    · split at e
      · rename_i hc
        unfold am_nx at e
        cases e
        exact ⟨_, _, rfl, hc, rfl⟩
      · cases e
    · cases e
  refine Or.inr ?_
  split at e
  · rename_i ha
    refine Or.inl ⟨ha, ?_⟩
    split at e
    · split at e
      · rename_i hc
        unfold am_nx at e
        cases e
        exact ⟨_, _, _, rfl, hc, rfl⟩
      · cases e
    · cases e
  refine Or.inr ?_
  split at e
  · rename_i ha
    refine Or.inl ⟨ha, ?_⟩
    split at e
    · split at e
      · rename_i hc
        unfold am_nx at e
        cases e
        exact ⟨_, _, _, rfl, hc, rfl⟩
      · cases e
    · cases e
  refine Or.inr ?_
  split at e
  · split at e
    · rename_i hc
      exact ⟨_, rfl, hc, e⟩
    · cases e
  · cases e
theorem am_rtI_i {M : am_M} {st : List Value} {o : am_O} (e : am_rtI M st = some o) : ∃ x, st = [.int x] ∧ (M.2.2.1 = 0 ∨ (M.2.2.1 = 1 ∧ (x = 0 ∨ x = 1))) ∧ o = .inr (.inl (some (.int x))) := by
  unfold am_rtI at e
  split at e
  · split at e
    · rename_i hc
      cases e
      exact ⟨_, rfl, hc, rfl⟩
    · cases e
  · cases e
theorem am_rtL_i {M : am_M} {st : List Value} {o : am_O} (e : am_rtL M st = some o) : ∃ x, st = [.long x] ∧ M.2.2.1 = 2 ∧ o = .inr (.inl (some (.long x))) := by
  unfold am_rtL at e
  split at e
  · split at e
    · rename_i hc
      cases e
      exact ⟨_, rfl, hc, rfl⟩
    · cases e
  · cases e
theorem am_rtA_i {M : am_M} {st : List Value} {o : am_O} (e : am_rtA M st = some o) : ∃ x, st = [.ref x] ∧ M.2.2.1 = 3 ∧ o = .inr (.inl (some (.ref x))) := by
  unfold am_rtA at e
  split at e
  · split at e
    · rename_i hc
      cases e
      exact ⟨_, rfl, hc, rfl⟩
    · cases e
  · cases e
theorem am_rtV_i {M : am_M} {st : List Value} {o : am_O} (e : am_rtV M st = some o) : st = [] ∧ M.2.2.1 = 4 ∧ o = .inr (.inl none) := by
  unfold am_rtV at e
  split at e
  · split at e
    · rename_i hc
      cases e
      exact ⟨rfl, hc, rfl⟩
    · cases e
  · cases e
